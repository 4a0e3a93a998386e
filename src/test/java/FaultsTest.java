/** Promises 2 to 5: the tape, and the faults of texts by number and place. */
public final class FaultsTest {
    private FaultsTest() {
    }

    public static void main(String[] args) {
        feedingAndGoingBack();
        tokens();
        tells();
        laws();
        room();
        tokenRoom();
        names();
        numbers();
        firstFault();
        whatAFaultLeaves();
        whatATextBrings();
        Checks.end("FaultsTest");
    }

    private static void fault(String text, int number, int place) {
        HeadCloths x = new HeadCloths();
        Checks.type(x, text);
        Checks.due("count(8) of " + text, text.length(), x.count(8));
        Checks.due("read() of " + text, number, x.read());
        Checks.due("place() of " + text, place, x.place());
        Checks.due("count(8) behind " + text, 0, x.count(8));
    }

    private static void fine(String text) {
        fault(text, 0, -1);
    }

    private static String times(int n, String part) {
        return part.repeat(n);
    }

    private static void feedingAndGoingBack() {
        HeadCloths x = new HeadCloths();
        Checks.due("place() ahead of a read", -1, x.place());
        Checks.due("back(0)", 0, x.back(0));
        Checks.due("back(1)", -1, x.back(1));
        for (int i = 1; i <= 100; i++) {
            Checks.due("feed", 20 * i, x.feed(i, i, i, i, i));
        }
        Checks.due("feed beyond 2000", -1, x.feed(1, 1, 1, 1, 1));
        Checks.due("count(8)", 2000, x.count(8));
        Checks.due("back(-1)", -1, x.back(-1));
        Checks.due("back(MIN)", -1, x.back(Integer.MIN_VALUE));
        Checks.due("back(2001)", -1, x.back(2001));
        Checks.due("back(MAX)", -1, x.back(Integer.MAX_VALUE));
        Checks.due("back(1)", 1999, x.back(1));
        Checks.due("feed at 1999", -1, x.feed(1, 1, 1, 1, 1));
        Checks.due("back(19)", 1980, x.back(19));
        Checks.due("feed at 1980", 2000, x.feed(1, 1, 1, 1, 1));
        Checks.due("back(2000)", 0, x.back(2000));
        Checks.due("read() of nothing", 0, x.read());
        // "says 12;" and 12 blanks: the highest byte first, a first
        Checks.due("feed", 20, x.feed(0x73617973, 0x2031323B, 0x20202020, 0x20202020, 0x20202020));
        Checks.due("read()", 0, x.read());
        // .. with a sign of 255 at its end
        Checks.due("feed", 20, x.feed(0x73617973, 0x2031323B, 0x20202020, 0x20202020, 0x202020FF));
        Checks.due("read()", 1, x.read());
        Checks.due("place()", 19, x.place());
        Checks.due("feed", 20, x.feed(0x80617973, 0x2031323B, 0x20202020, 0x20202020, 0x20202020));
        Checks.due("read()", 1, x.read());
        Checks.due("place()", 0, x.place());
        Checks.due("read() of nothing", 0, x.read());
        Checks.due("place()", -1, x.place());
    }

    private static void tokens() {
        fine("");
        fine(" \t\r\n ");
        fine("chair c 1;");
        fine("chair c1;");
        fine("chair\tc\n1\r;");
        fine("chair c 0009;");
        fine("chair eightsig 1;chair az 1;head zzzzzzzz 1 1 1 1 1;");
        fault("chairc 1;", 1, 0);
        fault("chair ninechars 1;", 1, 6);
        fault("chair averyverylongname 1;", 1, 6);
        fault("chair c 12345;", 1, 8);
        fault("chair c 00001;", 1, 8);
        fault("chair C 1;", 1, 6);
        fault("chair c -1;", 1, 8);
        fault("chair c 1.", 1, 9);
        fault("chair c 1;\0", 1, 10);
        fault("chair" + (char) 11 + "c 1;", 1, 5);
        fault("chair c 1;" + (char) 233, 1, 10);
        fault("chair c_d 1;", 1, 7);
        for (String word : Model.WORDS) {
            fault("chair " + word + " 1;", 1, 6);
        }
        fine("chair chairs 1;chair ifs 1;chair a 1;chair kee 2;");
    }

    private static void tells() {
        fault("x", 1, 0);
        fault(";", 1, 0);
        fault("7", 1, 0);
        fault("mesh", 1, 0);
        fault("if", 1, 0);
        fault("chair", 1, 5);
        fault("chair  ", 1, 7);
        fault("chair c", 1, 7);
        fault("chair c 1 ", 1, 10);
        fault("chair 1 c;", 1, 6);
        fault("chair c 1 2;", 1, 10);
        fault("chair c 1;;", 1, 10);
        fault("head h 1 2 3 4;", 1, 14);
        fault("head h 1 2 3 4 5 6;", 1, 17);
        fine("head h 1 2 3 4 5;");
        fault("visit a 1;", 1, 8);
        fault("visit a b;", 1, 9);
        fault("monday;", 1, 6);
        fault("monday = 1;", 1, 7);
        fault("says x;", 1, 5);
        fault("moth 1", 1, 6);
        fault("seed 1 1;", 1, 7);
        fine("monday 1;says 2;moth 3;seed 4;");
    }

    private static void laws() {
        fine("keeps=1;passes = mesh;washes = oil * thought;fades = (cloth);");
        fine("keeps = own + hour - sat * which / all;");
        fine("keeps = if 1 < 2 then 3 else 4;");
        fine("keeps=if(1)<2then 3else 4;");
        fine("keeps = if 1<2 then 3 else if mesh<oil then (1) else 4;");
        fault("keeps 1;", 1, 6);
        fault("keeps = ;", 1, 8);
        fault("keeps = 1", 1, 9);
        fault("keeps = c;", 1, 8);
        fault("keeps = 1 2;", 1, 10);
        fault("keeps = 1 +;", 1, 11);
        fault("keeps = + 1;", 1, 8);
        fault("keeps = 1 < 2;", 1, 10);
        fault("keeps = 1 if 1 < 2 then 1 else 1;", 1, 10);
        fault("keeps = if 1 then 2 else 3;", 1, 13);
        fault("keeps = if 1 < 2 < 3 then 2 else 3;", 1, 17);
        fault("keeps = if 1 < 2 then 3;", 1, 23);
        fault("keeps = if 1 < 2 else 3;", 1, 17);
        fault("keeps = if 1 < 2 then if 1 < 2 then 1 else 2 else 3;", 1, 22);
        fault("keeps = (if 1 < 2 then 3 else 4);", 1, 9);
        fault("keeps = (1;", 1, 10);
        fault("keeps = 1);", 1, 9);
        fault("keeps = ();", 1, 9);
        fault("keeps = ((1);", 1, 12);
        fault("keeps = (1))", 1, 11);
        fault("keeps = 10000;", 1, 8);
        fine("keeps = 9999;");
        fault("keeps == 1;", 1, 7);
        fault("keeps = 1 - - 1;", 1, 12);
        fault("keeps = 1 * / 1;", 1, 12);
    }

    private static void room() {
        String chairs = "chair a 1;chair b 1;chair c 1;chair d 1;";
        fine(chairs);
        fault(chairs + "chair e 1;", 2, 40);
        fault(chairs + "  chair", 2, 42);
        fault(chairs + "chair ?", 2, 40);
        String heads = "head e 1 1 1 1 1;head f 1 1 1 1 1;head g 1 1 1 1 1;head h 1 1 1 1 1;head i 1 1 1 1 1;";
        fine(chairs + heads);
        fault(heads + "head j 1 1 1 1 1;", 2, 85);
        String visits = times(10, "visit e a 1;");
        fine(chairs + heads + visits);
        fault(chairs + heads + visits + "visit e a 1;", 2, 245);
        String one = "if 1<2then 3else ";
        fine("keeps=" + times(4, one) + "5;");
        fault("keeps=" + times(5, one) + "5;", 2, 6 + 4 * 17);
        fault("keeps=" + times(4, one) + "if ?", 2, 6 + 4 * 17);
        fine("keeps=" + times(4, one) + "5;fades=" + times(4, one) + "5;keeps=" + times(4, one) + "5;");
        fine("keeps=((((((1))))));");
        fault("keeps=(((((((1)))))));", 2, 12);
        fault("keeps=(((((((", 2, 12);
        fault("keeps=((((((?", 1, 12);
        fine("keeps=((((((1))))))+((((((1))))))*(((((1)))+(1)));");
        fault("keeps=1+((((((1)))+((((1))))));", 2, 22);
        fine("keeps=if((((((1))))))<((((((1))))))then((((((1))))))else((((((1))))));");
        fault("keeps=if 1<2then(((((((1)))))))else 1;", 2, 22);
    }

    private static void tokenRoom() {
        String full = times(100, "keeps=1;");
        fine(full);
        fine(full + "  \n");
        fault(full + "says 1;", 2, 800);
        fault(full + "  chair", 2, 802);
        fault(full + "?", 1, 800);
        fault(full + " x", 1, 801);
        fault(full + ";", 1, 800);
        fault(full + "123456", 1, 800);
        fault(full.substring(0, 799), 1, 799);
        fault(full.substring(0, 799) + " +1;", 2, 801);
        fault(full.substring(0, 799) + "x", 1, 799);
        fault(times(134, "says 1;"), 2, 133 * 7 + 5);
        fault("keeps=" + times(400, "1+"), 2, 6 + 398);
        fault("chair a 10;" + full, 2, 11 + 99 * 8);
        fine(times(99, "keeps=1;") + "says 1;");
        fault(times(2000, "("), 1, 0);
        fine(times(2000, " "));
        fault(times(2000, "a"), 1, 0);
        fault("says" + times(1996, " "), 1, 2000);
    }

    private static void names() {
        fault("chair a 1; chair a 2;", 3, 17);
        fault("chair a 1; head a 1 2 3 4 5;", 3, 16);
        fault("head a 1 2 3 4 5; head a 1 2 3 4 5;", 3, 23);
        fault("head a 1 2 3 4 5; chair b 1; chair a 1;", 3, 35);
        fine("chair a 1; chair aa 1; chair b 1;");
        fault("visit a b 1;", 4, 6);
        fault("head a 1 1 1 1 1; visit a b 1;", 4, 26);
        fault("chair b 1; visit a b 1;", 4, 17);
        fault("chair b 1; visit b b 1;", 4, 17);
        fault("head a 1 1 1 1 1; visit a a 1;", 4, 26);
        fault("head a 1 1 1 1 1; visit a b 1; chair b 1;", 4, 26);
        fault("chair b 1; visit a b 1; head a 1 1 1 1 1;", 4, 17);
        fine("chair b 1; head a 1 1 1 1 1; visit a b 1;");
    }

    private static void numbers() {
        fine("chair c 9;");
        fault("chair c 10;", 5, 8);
        fine("head h 9 99 99 99 99;");
        fault("head h 10 0 0 0 0;", 5, 7);
        fault("head h 0 100 0 0 0;", 5, 9);
        fault("head h 0 0 100 0 0;", 5, 11);
        fault("head h 0 0 0 100 0;", 5, 13);
        fault("head h 0 0 0 0 100;", 5, 15);
        String ahead = "chair c 0;head h 0 0 0 0 0;";
        fine(ahead + "visit h c 23;");
        fault(ahead + "visit h c 24;", 5, 37);
        fine("monday 0;monday 30;");
        fault("monday 31;", 5, 7);
        fine("says 1;says 999;");
        fault("says 0;", 5, 5);
        fault("says 1000;", 5, 5);
        fine("moth 0;moth 100;");
        fault("moth 101;", 5, 5);
        fine("seed 0;seed 9999;");
        fault("says 0;says 5;", 5, 5);
    }

    private static void firstFault() {
        fault("chair a 10; chair a 1;", 5, 8);
        fault("chair a 1; chair a 10;", 3, 17);
        fault("visit a b 99;", 4, 6);
        fault("chair a 10; x", 1, 12);
        fault("visit a b 1; says", 1, 17);
        fault("chair a 1;chair a 1;chair a 1;chair a 1;chair a 1;", 2, 40);
        fault("x; chair a 10;", 1, 0);
    }

    private static void whatAFaultLeaves() {
        HeadCloths x = Checks.of("chair c 4;head h 1 50 2 3 4;visit h c 2;");
        Checks.due("sit", true, x.sit(0, 0));
        Checks.due("tell", 0, x.tell(0, 0, 1, true));
        Checks.due("hold", true, x.hold(1));
        Checks.type(x, "chair a 1; chair a 2;");
        Checks.due("read()", 3, x.read());
        Checks.due("place()", 17, x.place());
        Checks.due("count(0)", 1, x.count(0));
        Checks.due("chair(0, 4)", 4, x.chair(0, 4));
        Checks.due("chair(0, 0)", 1, x.chair(0, 0));
        Checks.due("head(0, 0)", 49, x.head(0, 0));
        Checks.due("count(8)", 0, x.count(8));
        Checks.due("count(9)", 1, x.count(9));
        Checks.due("count(10)", 1, x.count(10));
        Checks.due("count(11)", 1, x.count(11));
        Checks.due("undo()", true, x.undo());
        Checks.due("place() stays", 17, x.place());
    }

    private static void whatATextBrings() {
        HeadCloths x = Checks.of("chair c 4;head h 1 50 2 3 4;visit h c 2;moth 100;says 7;monday 1;fades=1;keeps=own;");
        x.keep(0, false);
        x.starch(0);
        x.hours(30);
        x.sit(0, 0);
        x.tell(0, 0, 1, true);
        x.hold(0);
        Checks.type(x, "chair d 3;head i 2 60 2 3 4;visit i d 5;");
        Checks.due("read()", 0, x.read());
        int[] counts = {1, 1, 1, 0, 0, 0, 69, 0, 0, 0, 0, 0, 0, 1, 1, 1, 0, 0, 2, -1};
        for (int i = 0; i < counts.length; i++) {
            Checks.due("count(" + i + ")", counts[i], x.count(i));
        }
        Checks.due("restore(0)", false, x.restore(0));
        Checks.due("undo()", false, x.undo());
        Checks.due("head(0, 5)", 1, x.head(0, 5));
        Checks.due("head(0, 6)", 0, x.head(0, 6));
        Checks.due("chair(0, 6)", 0, x.chair(0, 6));
        Checks.due("fades is told no more", 0, x.tells(0, 0, 0, 3));
        Checks.due("keeps is told no more", 1, x.tells(0, 0, 0, 0));
        Checks.due("hours(24)", 24, x.hours(24));
        Checks.due("monday is told no more", 1, x.chair(0, 0));
        Checks.type(x, "");
        Checks.due("read() of nothing", 0, x.read());
        Checks.due("count(0)", 0, x.count(0));
        Checks.due("count(1)", 0, x.count(1));
        Checks.due("count(2)", 0, x.count(2));
    }
}
