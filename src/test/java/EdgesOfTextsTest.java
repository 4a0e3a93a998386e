import java.util.List;
import java.util.TreeSet;

/** The edges that the document names of the tape and of texts: the terms up to II, and promises 2 to 5. */
public final class EdgesOfTextsTest {
    private static final String CHAIRS = "chair a 1;chair b 1;chair c 1;chair d 1;";
    private static final String HEADS = "head e 1 1 1 1 1;head f 1 1 1 1 1;head g 1 1 1 1 1;head h 1 1 1 1 1;head i 1 1 1 1 1;";
    private static final String VISITS = "visit e a 1;".repeat(10);
    private static final String UNITS = "5 mesh oil thought cloth own hour sat which all (";
    private static final String ON = "+ - * /";

    private EdgesOfTextsTest() {
    }

    public static void main(String[] args) {
        feedComesBehindTheTape();
        feedRefusesBeyond2000();
        backTakesTheLastBytes();
        backRefuses();
        readEmptiesTheTape();
        readAnswers();
        placeIsTheLatest();
        textOf2000Bytes();
        blanks();
        blanksNeedNotBe();
        names();
        namesAreNoWords();
        ints();
        signs();
        longerOnes();
        allElse();
        noTell();
        tellsGoOn();
        lawsGoOn();
        chairs();
        heads();
        visits();
        numberedAsTheyStand();
        lawsNotTold();
        theLastLaw();
        monday();
        says();
        moth();
        seed();
        theLastSetting();
        firstByPlace();
        textEnd();
        leastOfOnePlace();
        syntax();
        tokenRoom();
        oneMoreOfASort();
        fifthIf();
        seventhBracket();
        lesserFaultsWait();
        twice();
        unknownNames();
        namesToldMoreThanOnce();
        wrongNumbers();
        aFaultChangesNothing();
        inPlaceOfTheOneAhead();
        Edges.eachHasOne(2, 5);
        Checks.end("EdgesOfTextsTest");
    }

    // ---- promises 2 to 5

    private static void feedComesBehindTheTape() {
        Edges.promise(2, "Twenty bytes, the highest of a first, come behind the tape: how many it has.");
        HeadCloths x = new HeadCloths();
        // "chair c 7; head h 1 ", then "2 3 4 5;" and blanks
        Edges.due("feed", 20, x.feed(0x63686169, 0x72206320, 0x373B2068, 0x65616420, 0x68203120));
        Edges.due("feed", 40, x.feed(0x32203320, 0x3420353B, 0x20202020, 0x20202020, 0x20202020));
        Edges.due("read()", 0, x.read());
        Edges.due("mesh", 7, x.chair(0, 4));
        Edges.owns("told", x, 0, 2, 3, 4, 5);
        // each byte of each int by its place: all else is blank
        for (int i = 0; i < 20; i++) {
            int[] w = {0x20202020, 0x20202020, 0x20202020, 0x20202020, 0x20202020};
            w[i / 4] ^= 0xDF << 24 - i % 4 * 8;
            Edges.due("feed", 20, x.feed(w[0], w[1], w[2], w[3], w[4]));
            Edges.due("read() of byte 255", 1, x.read());
            Edges.due("place()", i, x.place());
        }
    }

    private static void feedRefusesBeyond2000() {
        Edges.promise(2, "NONE, and nothing comes, if it would have more than 2,000.");
        HeadCloths x = new HeadCloths();
        for (int i = 1; i <= 100; i++) {
            Edges.due("feed", 20 * i, x.feed(0x20202020, 0x20202020, 0x20202020, 0x20202020, 0x20202020));
        }
        Edges.due("feed at 2000", -1, x.feed(0, 0, 0, 0, 0));
        Edges.due("count(8)", 2000, x.count(8));
        Edges.due("back(1)", 1999, x.back(1));
        Edges.due("feed at 1999", -1, x.feed(0, 0, 0, 0, 0));
        Edges.due("back(18)", 1981, x.back(18));
        Edges.due("feed at 1981", -1, x.feed(0, 0, 0, 0, 0));
        Edges.due("count(8)", 1981, x.count(8));
        Edges.due("back(1)", 1980, x.back(1));
        Edges.due("feed at 1980", 2000, x.feed(0x20202020, 0x20202020, 0x20202020, 0x20202020, 0x20202020));
        Edges.due("nothing came: all is blank", 0, x.read());
        Edges.due("feed behind read()", 20, x.feed(0, 0, 0, 0, 0));
    }

    private static void backTakesTheLastBytes() {
        Edges.promise(3, "The last n bytes of the tape go: how many it has.");
        HeadCloths x = new HeadCloths();
        Edges.due("back(0) of an empty tape", 0, x.back(0));
        // "says 7;?" and more of it
        x.feed(0x73617973, 0x20373B3F, 0x3F3F3F3F, 0x3F3F3F3F, 0x3F3F3F3F);
        Edges.due("back(0)", 20, x.back(0));
        Edges.due("back(12)", 8, x.back(12));
        Edges.due("back(1)", 7, x.back(1));
        Edges.due("what is left", 0, x.read());
        x.feed(0, 0, 0, 0, 0);
        Edges.due("back(20): all", 0, x.back(20));
        Edges.due("nothing is left", 0, x.read());
        Checks.type(x, " ".repeat(2000));
        Edges.due("back(2000): all", 0, x.back(2000));
    }

    private static void backRefuses() {
        Edges.promise(3, "NONE, and nothing goes, if it has not so many, or n is below 0.");
        HeadCloths x = new HeadCloths();
        Edges.due("back(1) of an empty tape", -1, x.back(1));
        Edges.due("back(-1) of an empty tape", -1, x.back(-1));
        x.feed(0x73617973, 0x20373B20, 0x20202020, 0x20202020, 0x20202020);
        for (int n : new int[] {21, 22, 2000, 2001, Edges.MAX, -1, -2, -20, Edges.MIN}) {
            Edges.due("back(" + n + ")", -1, x.back(n));
            Edges.due("count(8)", 20, x.count(8));
        }
        Edges.due("read()", 0, x.read());
        Edges.due("back(1) behind read()", -1, x.back(1));
    }

    private static void readEmptiesTheTape() {
        Edges.promise(4, "The tape, which is empty then, is read");
        HeadCloths x = new HeadCloths();
        for (String text : List.of("chair a 1;", "chair a ?", "chair a 10;", "", " ")) {
            Checks.type(x, text);
            Edges.due("count(8) of " + text, text.length(), x.count(8));
            x.read();
            Edges.due("count(8) behind " + text, 0, x.count(8));
            Edges.due("read() once more", 0, x.read());
            Edges.due("the empty text has no chairs", 0, x.count(0));
        }
    }

    private static void readAnswers() {
        Edges.promise(4, "0, or the number of its FAULT.");
        String[] texts = {"chair a 1;", "chair a", CHAIRS + "chair e 1;", "chair a 1;chair a 1;", "visit a b 1;", "chair a 10;"};
        for (int number = 0; number < texts.length; number++) {
            HeadCloths x = new HeadCloths();
            Checks.type(x, texts[number]);
            Edges.due("read() of " + texts[number], number, x.read());
        }
    }

    private static void placeIsTheLatest() {
        Edges.promise(5, "The byte of the latest read()'s FAULT; NONE without.");
        HeadCloths x = new HeadCloths();
        Edges.due("place() of a new object", -1, x.place());
        Checks.type(x, "   ?");
        Edges.due("place() ahead of read()", -1, x.place());
        x.read();
        Edges.due("place()", 3, x.place());
        Edges.due("place() again", 3, x.place());
        Checks.type(x, "chair a 10;");
        Edges.due("place() ahead of the next read()", 3, x.place());
        x.read();
        Edges.due("place()", 8, x.place());
        x.hours(3);
        x.undo();
        x.hold(0);
        x.restore(0);
        Edges.due("place() behind other calls", 8, x.place());
        Checks.type(x, "chair a 1;");
        x.read();
        Edges.due("place() without", -1, x.place());
        Checks.type(x, "?");
        x.read();
        Edges.due("place(): the first byte", 0, x.place());
        x.read();
        Edges.due("place() of the empty text", -1, x.place());
    }

    // ---- tokens

    private static void textOf2000Bytes() {
        Edges.terms("A TEXT has 2,000 bytes at most.");
        Edges.fine(" ".repeat(2000));
        Edges.fine("says 1;" + " ".repeat(1993));
        Edges.fine(" ".repeat(1993) + "says 1;");
        Edges.fault(" ".repeat(1999) + "?", 1, 1999);
        Edges.fault(" ".repeat(1996) + "says", 1, 2000);
        Edges.fault("z".repeat(2000), 1, 0);
        Edges.fault("7".repeat(2000), 1, 0);
        Edges.fault("(".repeat(2000), 1, 0);
        HeadCloths x = Edges.of(" ".repeat(1980) + "says 9;chair last 7;");
        Edges.due("its last chair", 7, x.chair(0, 4));
    }

    private static boolean isBlank(int sign) {
        return sign == 9 || sign == 10 || sign == 13 || sign == 32;
    }

    private static boolean isLetter(int sign) {
        return sign >= 97 && sign <= 122;
    }

    private static boolean isDigit(int sign) {
        return sign >= 48 && sign <= 57;
    }

    private static void blanks() {
        Edges.terms("with blanks (9, 10, 13, 32) between or not");
        for (int sign = 0; sign < 256; sign++) {
            char c = (char) sign;
            if (isBlank(sign)) {
                Edges.fine("says" + c + "7" + c + ";" + c);
                Edges.fine(c + "says 7;");
                Edges.fine("" + c + c + "says" + c + c + c + "7;" + c + c);
                Edges.fault("chair a" + c + "b 1;", 1, 8);
                Edges.fault("seed 1" + c + "2;", 1, 7);
            } else {
                Edges.fault(c + " says 7;", 1, 0);
                Edges.fault("says 7; " + c, 1, 8);
                Edges.fault("says 7 " + c + " ;", 1, sign == ';' ? 9 : 7);
            }
        }
    }

    private static void blanksNeedNotBe() {
        Edges.terms("TOKENS, the longest that can be");
        Edges.fine("chair a1;head b2 3 4 5 6;visit b a7;keeps=if1<2then3else4;monday1;says1;moth1;seed1;");
        Edges.fault("chaira 1;", 1, 0);
        Edges.fault("keeps=if1<2thenown else 3;", 1, 11);
        Edges.fault("keeps=ownown;", 1, 6);
        HeadCloths x = Edges.of("chair a1;head b2 33 44 55 66;keeps=12;");
        Edges.due("12 is one number", 12, x.tells(0, 0, 0, 0));
        Edges.fault("chair ab 1;chair a b 1;", 1, 19);
    }

    private static void names() {
        Edges.terms("NAMES (letters a .. z, 8 at most, none of the words in quotes)");
        for (int size = 1; size <= 12; size++) {
            for (char letter : new char[] {'a', 'm', 'z'}) {
                String name = String.valueOf(letter).repeat(size);
                Edges.fault("chair " + name + " 1;", size > 8 ? 1 : 0, size > 8 ? 6 : -1);
                Edges.fault("head " + name + " 1 2 3 4 5;", size > 8 ? 1 : 0, size > 8 ? 5 : -1);
            }
        }
        for (char letter = 'a'; letter <= 'z'; letter++) {
            Edges.fine("chair " + letter + " 1;head q" + letter + " 1 1 1 1 1;visit q" + letter + " " + letter + " 1;");
        }
        Edges.fine("chair abcdefgh 1;chair abcdefgi 1;chair bbcdefgh 1;chair abcdefg 1;");
        Edges.fault("chair abcdefgh 1;chair abcdefgh 1;", 3, 23);
        manyNames();
        // beside the letters: ` and {, and what is 32 less
        for (char sign : new char[] {'`', '{', 'A', 'Z', '_', (char) 225}) {
            Edges.fault("chair " + sign + " 1;", 1, 6);
            Edges.fault("chair a" + sign + " 1;", 1, 7);
        }
    }

    private static void manyNames() {
        for (char letter = 'a'; letter <= 'z'; letter++) {
            String text = "";
            for (int size = 1; size <= 8; size++) {
                String name = String.valueOf(letter).repeat(size);
                text += size <= 4 ? "chair " + name + " 1;" : "head " + name + " 1 1 1 1 1;";
            }
            Edges.fine(text);
        }
        java.util.Random random = new java.util.Random(7);
        for (int i = 0; i < 300; i++) {
            TreeSet<String> names = new TreeSet<>();
            while (names.size() < 9) {
                String name = "";
                int size = 1 + random.nextInt(8);
                for (int k = 0; k < size; k++) {
                    name += (char) ('a' + random.nextInt(i % 2 == 0 ? 26 : 2) * (i % 2 == 0 ? 1 : 25));
                }
                names.add(name);
            }
            names.removeAll(Model.WORDS);
            String text = "";
            int told = 0;
            for (String name : names) {
                text += told++ < 4 ? "chair " + name + " 1;" : "head " + name + " 1 1 1 1 1;";
            }
            Edges.fine(text);
        }
    }

    private static void namesAreNoWords() {
        Edges.terms("none of the words in quotes");
        for (String word : new TreeSet<>(Model.WORDS)) {
            Edges.fault("chair " + word + " 1;", 1, 6);
            Edges.fault("head " + word + " 1 1 1 1 1;", 1, 5);
            Edges.fault("chair a 1;head b 1 1 1 1 1;visit " + word + " a 1;", 1, 33);
            Edges.fault("chair a 1;head b 1 1 1 1 1;visit b " + word + " 1;", 1, 35);
            Edges.fine("chair " + word + "s 1;chair z" + word + " 1;");
            Edges.fine("chair " + word.substring(1) + " 1;");
        }
        Edges.fine("chair text 1;chair tell 1;chair law 1;chair var 1;head unit 1 1 1 1 1;");
    }

    private static void ints() {
        Edges.terms("INTS (1 to 4 digits)");
        for (String number : List.of("0", "9", "10", "99", "100", "999", "1000", "9999", "0000", "0001")) {
            Edges.fine("seed " + number + ";");
        }
        for (String number : List.of("00000", "00001", "10000", "99999", "4294967296", "4294967297")) {
            Edges.fault("seed " + number + ";", 1, 5);
            Edges.fault("keeps=1+" + number + ";", 1, 8);
        }
        for (int digit = 0; digit <= 9; digit++) {
            HeadCloths x = Edges.of("chair a 000" + digit + ";head b " + digit + " 9" + digit + " 0 0 0;");
            Edges.due("digit " + digit, digit, x.chair(0, 4));
            Edges.due("digit " + digit, 90 + digit, x.head(0, 0));
        }
        // beside the digits: / and :
        Edges.fault("seed /;", 1, 5);
        Edges.fault("seed :;", 1, 5);
    }

    private static void signs() {
        Edges.terms("SIGNS ; = + - * / < ( ) .");
        Edges.fine("keeps=(1+2-3)*4/5;fades=if 1<2then(3)else 4;");
        for (char sign = 33; sign < 127; sign++) {
            if (!isLetter(sign) && !isDigit(sign)) {
                boolean on = "+-*/".indexOf(sign) >= 0;
                Edges.fault("keeps=1" + sign + "2;", on ? 0 : 1, on ? -1 : sign == ';' ? 8 : 7);
            }
        }
    }

    private static void longerOnes() {
        Edges.terms("A longer one, all else, is no TOKEN.");
        Edges.fault("chair abcdefghi 1;", 1, 6);
        Edges.fault("chair keepskeeps 1;", 1, 6);
        Edges.fault("keepskeep=1;", 1, 0);
        Edges.fault("seed 12345;", 1, 5);
        // its head is not a token of its own
        Edges.fault("keeps=1 + 12345", 1, 10);
        Edges.fault("visit abcdefghi b 1;", 1, 6);
    }

    private static void allElse() {
        Edges.terms("all else, is no TOKEN");
        for (int sign = 0; sign < 256; sign++) {
            if (!isBlank(sign) && !isLetter(sign) && !isDigit(sign) && ";=+-*/<()".indexOf(sign) < 0) {
                Edges.fault("keeps=own" + (char) sign + ";", 1, 9);
                Edges.fault("" + (char) sign, 1, 0);
            }
        }
    }

    // ---- the grammar

    private static void noTell() {
        Edges.terms("text: {TELL}.");
        Edges.fine("");
        Edges.fine(" \t\r\n");
        Edges.fine("moth 1;");
        Edges.fine("moth 1;moth 2; moth 3 ;");
        Edges.fault("moth 1;;", 1, 7);
        Edges.fault(";", 1, 0);
    }

    /** Each token there can be behind a text that is begun: only those told go on. */
    private static void goesOn(String begun, String told) {
        List<String> fits = List.of(told.split(" "));
        List<String> tokens = new java.util.ArrayList<>(new TreeSet<>(Model.WORDS));
        tokens.addAll(List.of("zz", "5", ";", "=", "+", "-", "*", "/", "<", "(", ")", "?", "12345", "abcdefghi"));
        Edges.fault(begun, 1, begun.length());
        for (String token : tokens) {
            HeadCloths x = new HeadCloths();
            Checks.type(x, begun + " " + token + " ?");
            Edges.due("read() of " + begun + " " + token + " ?", 1, x.read());
            int next = begun.length() + token.length() + 2;
            Edges.due("place() of it", fits.contains(token) ? next : begun.length() + 1, x.place());
        }
    }

    private static void goesOnAll(String tell, String... kinds) {
        String begun = tell;
        for (String kind : kinds) {
            goesOn(begun, kind);
            begun += " " + kind;
        }
    }

    private static void tellsGoOn() {
        Edges.terms("'chair' NAME INT ';' | 'head' NAME INT INT INT INT INT ';' | 'visit' NAME NAME INT ';'");
        goesOnAll("chair", "zz", "5", ";");
        goesOnAll("head", "zz", "5", "5", "5", "5", "5", ";");
        goesOnAll("visit", "zz", "zz", "5", ";");
        Edges.terms("'monday' INT ';' | 'says' INT ';' | 'moth' INT ';' | 'seed' INT ';'");
        for (String word : List.of("monday", "says", "moth", "seed")) {
            goesOnAll(word, "5", ";");
        }
        Edges.terms("TELL: 'chair'");
        for (String word : new TreeSet<>(Model.WORDS)) {
            boolean begins = "chair head visit keeps passes washes fades monday says moth seed".contains(word);
            Edges.fault("seed 1; " + word + " ?", 1, begins ? 9 + word.length() : 8);
        }
        Edges.fault("zz", 1, 0);
        Edges.fault("5", 1, 0);
    }

    private static void lawsGoOn() {
        Edges.terms("('keeps' | 'passes' | 'washes' | 'fades') LAW ';'");
        for (String law : Model.LAWS) {
            goesOn(law, "=");
            goesOn(law + " = 1", ON + " ;");
        }
        Edges.terms("LAW: '=' {'if' E '<' E 'then' E 'else'} E.");
        goesOn("keeps =", "if " + UNITS);
        goesOn("keeps = if", UNITS);
        goesOn("keeps = if 1", ON + " <");
        goesOn("keeps = if 1 <", UNITS);
        goesOn("keeps = if 1 < 2", ON + " then");
        goesOn("keeps = if 1 < 2 then", UNITS);
        goesOn("keeps = if 1 < 2 then 3", ON + " else");
        goesOn("keeps = if 1 < 2 then 3 else", "if " + UNITS);
        goesOn("keeps = if 1 < 2 then 3 else 4", ON + " ;");
        goesOn("keeps = if 1 < 2 then 3 else if 4", ON + " <");
        Edges.terms("E: PART {('+' | '-') PART}.");
        goesOn("keeps = 1 +", UNITS);
        goesOn("keeps = 1 -", UNITS);
        goesOn("keeps = 1 + 2 - 3", ON + " ;");
        Edges.terms("PART: UNIT {('*' | '/') UNIT}.");
        goesOn("keeps = 1 *", UNITS);
        goesOn("keeps = 1 /", UNITS);
        goesOn("keeps = 1 * 2 / 3", ON + " ;");
        Edges.terms("UNIT: INT | VAR | '(' E ')'.");
        goesOn("keeps = (", UNITS);
        goesOn("keeps = ( 1", ON + " )");
        goesOn("keeps = ( 1 )", ON + " ;");
        goesOn("keeps = ( ( 1 )", ON + " )");
        Edges.terms("VAR: 'mesh' | 'oil' | 'thought' | 'cloth' | 'own' | 'hour' | 'sat' | 'which' | 'all'.");
        for (String variable : Model.VARS) {
            goesOn("keeps = " + variable, ON + " ;");
        }
    }

    // ---- what is told

    private static void number(String ahead, int low, int high, String behind) {
        for (int n : new int[] {low, low + 1, high - 1, high}) {
            Edges.fine(ahead + n + behind);
        }
        for (int n : new int[] {low - 1, high + 1, 9999}) {
            if (n >= 0 && n <= 9999 && (n < low || n > high)) {
                Edges.fault(ahead + n + behind, 5, ahead.length());
            }
        }
    }

    private static void chairs() {
        Edges.terms("CHAIRS, 4 at most (a NAME, MESH 0 .. 9)");
        for (int size = 0; size <= 4; size++) {
            HeadCloths x = Edges.of(CHAIRS.substring(0, 10 * size));
            Edges.due("count(0)", size, x.count(0));
        }
        Edges.fault(CHAIRS + "chair e 1;", 2, 40);
        number("chair a ", 0, 9, ";");
        number("chair a 9;chair b 0;chair c 5;chair d ", 0, 9, ";");
        HeadCloths x = Edges.of("chair a 0;chair b 9;");
        Edges.due("mesh 0", 0, x.chair(0, 4));
        Edges.due("mesh 9", 9, x.chair(1, 4));
    }

    private static void heads() {
        Edges.terms("HEADS, 5 at most (a NAME, OIL 0 .. 9, how much they have of each THOUGHT 0 .. 3: 0 .. 99 each)");
        for (int size = 0; size <= 5; size++) {
            HeadCloths x = Edges.of(HEADS.substring(0, 17 * size));
            Edges.due("count(1)", size, x.count(1));
        }
        Edges.fault(HEADS + "head j 1 1 1 1 1;", 2, 85);
        number("head a ", 0, 9, " 0 0 0 0;");
        number("head a 0 ", 0, 99, " 0 0 0;");
        number("head a 0 0 ", 0, 99, " 0 0;");
        number("head a 0 0 0 ", 0, 99, " 0;");
        number("head a 0 0 0 0 ", 0, 99, ";");
        HeadCloths x = Edges.of("head a 9 99 0 99 0;head b 0 0 99 0 99;");
        Edges.due("oil 9", 9, x.head(0, 4));
        Edges.due("oil 0", 0, x.head(1, 4));
        Edges.owns("99 and 0", x, 0, 99, 0, 99, 0);
        Edges.owns("0 and 99", x, 1, 0, 99, 0, 99);
    }

    private static void visits() {
        Edges.terms("VISITS, 10 at most (a HEAD, a CHAIR, an hour of the day 0 .. 23)");
        for (int size = 0; size <= 10; size++) {
            HeadCloths x = Edges.of(CHAIRS + HEADS + VISITS.substring(0, 12 * size));
            Edges.due("count(2)", size, x.count(2));
        }
        Edges.fault(CHAIRS + HEADS + VISITS + "visit e a 1;", 2, 245);
        number("chair a 0;head b 0 0 0 0 0;visit b a ", 0, 23, ";");
        HeadCloths x = Edges.of(CHAIRS + HEADS + "visit e a 0;visit i d 23;");
        int[][] told = {{0, 0, 0}, {4, 3, 23}};
        for (int visit = 0; visit < 2; visit++) {
            for (int what = 0; what < 3; what++) {
                Edges.due("visit(" + visit + ", " + what + ")", told[visit][what], x.visit(visit, what));
            }
        }
    }

    private static void numberedAsTheyStand() {
        Edges.terms("numbered each from 0 on as they stand");
        HeadCloths x = Edges.of("head p 1 1 1 1 1;chair z 3;head o 2 2 2 2 2;visit o z 4;chair y 4;visit p y 3;head n 3 3 3 3 3;"
            + "chair x 5;visit n z 2;chair w 6;head m 4 4 4 4 4;head l 5 5 5 5 5;visit l w 1;");
        for (int i = 0; i < 4; i++) {
            Edges.due("chair(" + i + ", 4)", 3 + i, x.chair(i, 4));
        }
        for (int i = 0; i < 5; i++) {
            Edges.due("head(" + i + ", 4)", 1 + i, x.head(i, 4));
        }
        int[][] visits = {{1, 0, 4}, {0, 1, 3}, {2, 0, 2}, {4, 3, 1}};
        for (int visit = 0; visit < 4; visit++) {
            for (int what = 0; what < 3; what++) {
                Edges.due("visit(" + visit + ", " + what + ")", visits[visit][what], x.visit(visit, what));
            }
        }
    }

    private static void lawsNotTold() {
        Edges.terms("LAWS: KEEPS (1), PASSES (1), WASHES (cloth), FADES (0), if not told");
        HeadCloths x = Edges.of("chair c 5;head h 2 90 0 7 1;");
        Edges.due("keeps", 1, x.tells(0, 0, 0, 0));
        Edges.due("keeps of nothing", 0, x.tells(0, 0, 1, 0));
        Edges.due("passes of nothing", 0, x.tells(0, 0, 0, 1));
        Edges.due("washes of nothing", 0, x.tells(0, 0, 0, 2));
        Edges.due("fades", 0, x.tells(0, 0, 0, 3));
        x = Edges.of("chair c 5;head h 2 90 0 7 1;keeps=6;");
        x.sit(0, 0);
        Edges.due("passes", 1, x.tells(0, 0, 0, 1));
        Edges.due("washes", 6, x.tells(0, 0, 0, 2));
        x.hours(72);
        Edges.owns("fades", x, 0, 84, 0, 1, 0);
        // each told law leaves the others as they are
        x = Edges.of("chair c 5;head h 2 90 0 7 1;passes=0;washes=0;fades=2;");
        Edges.due("keeps beside told ones", 1, x.tells(0, 0, 0, 0));
    }

    private static void theLastLaw() {
        Edges.terms("if not told; the last one.");
        HeadCloths x = Edges.of("keeps=3;fades=9;keeps=4;chair c 5;head h 2 90 90 90 90;keeps=5;fades=if 1<2then 8else 3;fades=7;");
        Edges.due("keeps", 5, x.tells(0, 0, 0, 0));
        Edges.due("fades", 7, x.tells(0, 0, 0, 3));
        x = Edges.of("chair c 5;head h 2 90 90 90 90;keeps=20;passes=3;passes=4;washes=6;washes=if 2<1then 8else 5;");
        x.sit(0, 0);
        Edges.due("passes", 4, x.tells(0, 0, 0, 1));
        Edges.due("washes", 5, x.tells(0, 0, 0, 2));
    }

    private static void monday() {
        Edges.terms("MONDAY: all is washed behind so many days each 0 .. 30 (0: never)");
        number("monday ", 0, 30, ";");
        for (int days : new int[] {1, 2, 3, 29, 30}) {
            HeadCloths x = Edges.of("chair c 0;head h 0 90 0 0 0;keeps=5;monday " + days + ";");
            x.sit(0, 0);
            for (int gone = 0; gone < days * 24 - 1; gone += Math.min(72, days * 24 - 1 - gone)) {
                x.hours(Math.min(72, days * 24 - 1 - gone));
            }
            Edges.due("hour " + x.count(3) + ", monday " + days, 5, x.chair(0, 0));
            x.hours(1);
            Edges.due("hour " + x.count(3) + ", monday " + days, 0, x.chair(0, 0));
            Edges.due("the suds", 5, x.count(5));
        }
        for (String never : List.of("monday 0;", "")) {
            HeadCloths x = Edges.of("chair c 0;head h 0 90 0 0 0;keeps=5;" + never);
            x.sit(0, 0);
            for (int i = 0; i < 31; i++) {
                x.hours(24);
            }
            Edges.due("31 days", 5, x.chair(0, 0));
        }
    }

    private static void says() {
        Edges.terms("SAYS 1 .. 999: how much one must have of a THOUGHT to say it (50)");
        number("says ", 1, 999, ";");
        Edges.fault("says 0;", 5, 5);
        Edges.fault("says 0000;", 5, 5);
        String head = "head h 0 1 0 49 50;head i 0 51 99 2 98;";
        Edges.due("not told", 8, Edges.of(head).head(0, 5));
        Edges.due("not told", 11, Edges.of(head).head(1, 5));
        Edges.due("1", 13, Edges.of(head + "says 1;").head(0, 5));
        Edges.due("2", 12, Edges.of(head + "says 2;").head(0, 5));
        Edges.due("99", 2, Edges.of(head + "says 99;").head(1, 5));
        Edges.due("100", 0, Edges.of(head + "says 100;").head(1, 5));
        Edges.due("999", 0, Edges.of(head + "says 999;").count(13));
    }

    private static void moth() {
        Edges.terms("MOTH: in how many of 100 hours 0 .. 100 (0)");
        number("moth ", 0, 100, ";");
        int[] moths = {0, 1, 50, 99, 100};
        for (int moth : moths) {
            HeadCloths x = Edges.of("chair c 0;moth " + moth + ";");
            HeadCloths y = Edges.of("chair c 0;");
            for (int hour = 0; hour < 150; hour++) {
                Edges.due("moth " + moth + ", hour " + hour, Model.lot(100, 0, 8 * hour) < moth ? 1 : 0, x.count(12));
                Edges.due("not told, hour " + hour, 0, y.count(12));
                x.hours(1);
                y.hours(1);
            }
        }
    }

    private static void seed() {
        Edges.terms("SEED 0 .. 9999 (0)");
        number("seed ", 0, 9999, ";");
        // LOT 100 of seed 0 in hour 0 is 34, of 119 it is 0, of 9999 it is told by the model
        Edges.due("not told", 1, Edges.of("moth 35;").count(12));
        Edges.due("not told", 0, Edges.of("moth 34;").count(12));
        Edges.due("seed 0", 1, Edges.of("moth 35;seed 0;").count(12));
        Edges.due("seed 119", 1, Edges.of("moth 1;seed 119;").count(12));
        int lot = Model.lot(100, 9999, 0);
        Edges.due("seed 9999", 1, Edges.of("moth " + (lot + 1) + ";seed 9999;").count(12));
        Edges.due("seed 9999", 0, Edges.of("moth " + lot + ";seed 9999;").count(12));
    }

    private static void theLastSetting() {
        Edges.terms("SEED 0 .. 9999 (0): the last one.");
        Edges.due("moth", 1, Edges.of("moth 0;moth 100;").count(12));
        Edges.due("moth", 0, Edges.of("moth 100;moth 0;").count(12));
        Edges.due("seed", 1, Edges.of("moth 1;seed 0;seed 119;").count(12));
        Edges.due("seed", 0, Edges.of("moth 1;seed 119;seed 0;").count(12));
        Edges.due("says", 3, Edges.of("says 999;head h 0 5 4 3 2;says 4;").head(0, 5));
        HeadCloths x = Edges.of("chair c 0;head h 0 90 0 0 0;monday 1;monday 2;");
        x.sit(0, 0);
        x.hours(24);
        Edges.due("monday 2, a day", 1, x.chair(0, 0));
        x.hours(24);
        Edges.due("monday 2, two days", 0, x.chair(0, 0));
    }

    // ---- faults

    private static void firstByPlace() {
        Edges.terms("FAULTS of a text, the first by its place");
        Edges.fault("? ?", 1, 0);
        Edges.fault("chair a 1; ? chair", 1, 11);
        Edges.fault(CHAIRS + "chair e 1; ?", 2, 40);
        Edges.fault(CHAIRS + "? chair e 1;", 1, 40);
        Edges.fault("keeps=(((((((1))))))); " + CHAIRS + "chair e 1;", 2, 12);
        Edges.fault("chair a 10;chair a 1;visit a a 1;", 5, 8);
        Edges.fault("chair a 1;chair a 10;visit a a 1;", 3, 16);
        Edges.fault("visit a a 99;chair a 10;chair a 1;", 4, 6);
        Edges.fault("head a 10 100 1 1 1;", 5, 7);
    }

    private static void textEnd() {
        Edges.terms("the text's end: its length");
        for (String text : List.of("chair", "chair ", "chair a", "chair a 1", "chair a 1 \n", "keeps", "keeps=", "keeps=1", "keeps=(1",
            "keeps=if 1<2", "visit a b", "head a 1 2 3 4 5", "monday 1 ")) {
            Edges.fault(text, 1, text.length());
        }
        Edges.fault("seed" + " ".repeat(1996), 1, 2000);
    }

    private static void leastOfOnePlace() {
        Edges.terms("of one place the least");
        String full = "keeps=1;".repeat(100);
        Edges.fault(full + "?", 1, 800);
        Edges.fault(full + ";", 1, 800);
        Edges.fault(full + "zz", 1, 800);
        Edges.fault(full + "mesh", 1, 800);
        Edges.fault(full + "seed", 2, 800);
        // its 400 tokens stand, the text does not: the end is no token
        Edges.fault(full.substring(0, 792) + "keeps=1+", 1, 800);
        Edges.fault(full.substring(0, 792) + "keeps=1+1", 2, 800);
        Edges.fault(full.substring(0, 792) + "keeps=1+;", 1, 800);
    }

    private static void syntax() {
        Edges.terms("1 SYNTAX: a TOKEN, or what is none, with which no text goes on.");
        Edges.fault("chair a 1; chair chair", 1, 17);
        Edges.fault("chair a ;", 1, 8);
        Edges.fault("chair a 1 1;", 1, 10);
        Edges.fault("chair a 99999;", 1, 8);
        Edges.fault("keeps=if 1 then", 1, 11);
        Edges.fault("keeps=(if 1<2then 3else 4);", 1, 7);
        Edges.fault("keeps=-1;", 1, 6);
        Edges.fault("keeps=a;", 1, 6);
        Edges.fault("chair a -1;", 1, 8);
    }

    private static void tokenRoom() {
        Edges.terms("2 ROOM: a 401st TOKEN");
        String full = "keeps=1;".repeat(100);
        Edges.fine(full);
        Edges.fine(full + " \n\t\r");
        Edges.fault(full + "keeps=1;", 2, 800);
        Edges.fault(full + "\n chair a 1;", 2, 802);
        Edges.fine("keeps=1;".repeat(99) + "seed 1;");
        Edges.fault("keeps=1;".repeat(99) + "seed 1;seed 1;", 2, 792 + 12);
        Edges.fine("keeps=" + "1+".repeat(198) + "1;");
        Edges.fault("keeps=" + "1+".repeat(199) + "1;", 2, 6 + 398);
        Edges.fault("keeps=" + "1+".repeat(900) + "1;", 2, 6 + 398);
        // the other three of its kind go ahead by their places
        Edges.fault(CHAIRS + "chair e 1;" + full, 2, 40);
    }

    private static void oneMoreOfASort() {
        Edges.terms("one more of a sort than told (at its first TOKEN)");
        Edges.fault(CHAIRS + "chair e 1;", 2, 40);
        Edges.fault(CHAIRS + HEADS + "  chair a 10;", 2, 127);
        Edges.fault("chair a 1;" + HEADS + "head j 1 1 1 1 1;", 2, 95);
        Edges.fault(CHAIRS + HEADS + VISITS + "\nvisit j j 99;", 2, 246);
        Edges.fault(CHAIRS + "chair", 2, 40);
        Edges.fault(HEADS + "head ?", 2, 85);
        Edges.fine(CHAIRS + HEADS + VISITS + "monday 1;".repeat(9) + "says 1;".repeat(9) + "moth 1;".repeat(9) + "seed 1;".repeat(9));
    }

    private static void fifthIf() {
        Edges.terms("a 5th if of a LAW (at it)");
        String one = "if 1<2then 3else ";
        for (String law : Model.LAWS) {
            for (int ifs = 0; ifs <= 4; ifs++) {
                Edges.fine(law + "=" + one.repeat(ifs) + "5;");
            }
            Edges.fault(law + "=" + one.repeat(5) + "5;", 2, law.length() + 1 + 4 * 17);
            Edges.fault(law + "=" + one.repeat(6) + "5;", 2, law.length() + 1 + 4 * 17);
            Edges.fault(law + "=" + one.repeat(4) + "if", 2, law.length() + 1 + 4 * 17);
        }
        Edges.fine("keeps=" + one.repeat(4) + "5;keeps=" + one.repeat(4) + "5;fades=" + one.repeat(4) + "5;");
        Edges.fault("keeps=" + one.repeat(4) + "5;fades=" + one.repeat(5) + "5;", 2, 6 + 68 + 2 + 6 + 68);
    }

    private static void seventhBracket() {
        Edges.terms("a 7th ( within one another (at it)");
        for (int deep = 0; deep <= 6; deep++) {
            Edges.fine("keeps=" + "(".repeat(deep) + "1" + ")".repeat(deep) + ";");
        }
        for (int deep : new int[] {7, 8, 100}) {
            Edges.fault("keeps=" + "(".repeat(deep) + "1" + ")".repeat(deep) + ";", 2, 12);
        }
        String six = "((((((1))))))";
        String seven = "(((((((1)))))))";
        Edges.fine("keeps=" + six + "+" + six + "*" + six + ";fades=" + six + ";");
        Edges.fine("keeps=if " + six + "<" + six + " then " + six + " else " + six + ";");
        Edges.fine("keeps=(((((1)+(1))+((1)))+(((1)))));");
        Edges.fault("keeps=if " + seven + "<1then 1else 1;", 2, 15);
        Edges.fault("keeps=if 1<" + seven + "then 1else 1;", 2, 17);
        Edges.fault("keeps=if 1<1then " + seven + "else 1;", 2, 23);
        Edges.fault("keeps=if 1<1then 1else " + seven + ";", 2, 29);
        Edges.fault("keeps=(1+(2*(3-(4/(5+(6+(7)))))));", 2, 24);
        Edges.fault("keeps=((((((?", 1, 12);
        Edges.fault("keeps=((((((1)+(2", 1, 17);
    }

    private static void lesserFaultsWait() {
        Edges.terms("If there is none, likewise");
        Edges.fault("chair a 10;?", 1, 11);
        Edges.fault("chair a 1;chair a 1;says", 1, 24);
        Edges.fault("visit a b 1;keeps=(((((((1)))))));", 2, 24);
        Edges.fault("chair a 10;chair a 10;visit z z 99;head a 1 1 1 1 1;chair b 1;chair c 1;chair d 1;", 2, 72);
        Edges.fault("says 0;" + "keeps=1;".repeat(100), 2, 7 + 792 + 5);
        Edges.fault("visit a b 99;", 4, 6);
        Edges.fault("chair a 1;head a 10 1 1 1 1;", 3, 15);
    }

    private static void twice() {
        Edges.terms("3 TWICE: a NAME told already (of CHAIRS and HEADS together).");
        Edges.fault("chair a 1;chair a 1;", 3, 16);
        Edges.fault("head a 1 1 1 1 1;head a 1 1 1 1 1;", 3, 22);
        Edges.fault("chair a 1;head a 1 1 1 1 1;", 3, 15);
        Edges.fault("head a 1 1 1 1 1;chair a 1;", 3, 23);
        Edges.fault("chair a 1;chair b 1;chair c 1;chair a 1;", 3, 36);
        Edges.fault("chair d 1;" + HEADS.replace("head i", "head d"), 3, 10 + 68 + 5);
        Edges.fine("chair a 1;head aa 1 1 1 1 1;chair aaa 1;head b 1 1 1 1 1;");
        Edges.fine(CHAIRS + HEADS);
    }

    private static void unknownNames() {
        Edges.terms("4 NAME: (at it) no such HEAD, CHAIR told ahead");
        String ahead = "chair a 1;head b 1 1 1 1 1;";
        Edges.fine(ahead + "visit b a 1;");
        Edges.fault(ahead + "visit c a 1;", 4, 33);
        Edges.fault(ahead + "visit b c 1;", 4, 35);
        Edges.fault(ahead + "visit a a 1;", 4, 33);
        Edges.fault(ahead + "visit b b 1;", 4, 35);
        Edges.fault(ahead + "visit a b 1;", 4, 33);
        Edges.fault("chair a 1;visit b a 1;head b 1 1 1 1 1;", 4, 16);
        Edges.fault("head b 1 1 1 1 1;visit b a 1;chair a 1;", 4, 25);
        Edges.fault("visit b a 1;" + ahead, 4, 6);
        // the names of the text ahead are told no more
        HeadCloths x = Edges.of(ahead);
        Checks.type(x, "visit b a 1;");
        Edges.due("read()", 4, x.read());
    }

    /** The second one is TWICE, which stands ahead of all visits to it: such a visit is never a fault of its own. */
    private static void namesToldMoreThanOnce() {
        Edges.terms("(a NAME told more than once is that of the first one of the sort)");
        Edges.fault("chair a 1;head a 1 1 1 1 1;visit a a 1;", 3, 15);
        Edges.fault("head b 1 1 1 1 1;chair a 1;chair a 2;visit b a 1;", 3, 33);
        Edges.fault("head b 1 1 1 1 1;chair a 1;visit b a 1;chair a 2;", 3, 45);
    }

    private static void wrongNumbers() {
        Edges.terms("5 WRONG (at the INT): a number not as told above.");
        Edges.fault("chair a   10;", 5, 10);
        Edges.fault("head a 0010 0 0 0 0;", 5, 7);
        Edges.fault("head a 0 0 0 0 0100;", 5, 15);
        Edges.fault("chair a 1;head b 1 1 1 1 1;visit b a 24;", 5, 37);
        Edges.fault("monday 31;", 5, 7);
        Edges.fault("says 1000;", 5, 5);
        Edges.fault("moth 101;", 5, 5);
        // the last one counts, but each must be right
        Edges.fault("moth 101;moth 1;", 5, 5);
        Edges.fine("keeps=9999;fades=0;");
    }

    private static void aFaultChangesNothing() {
        Edges.terms("A text with a FAULT changes nothing but the tape");
        String house = "chair a 3;chair b 4;head h 1 50 20 3 4;head i 2 0 1 2 60;visit h a 2;visit i b 3;keeps=5;moth 40;seed 3;";
        String[] texts = {"chair a 7;head h 9 9 9 9 9;says 1;moth 100;keeps=9;?", CHAIRS + "chair e 1;", "chair a 5;chair a 5;monday 1;",
            "head h 1 1 1 1 1;visit h x 1;", "chair a 5;chair b 6;head h 8 7 6 5 4;seed 7;moth 100;keeps=0;says 0;"};
        for (int number = 1; number <= 5; number++) {
            String text = texts[number - 1];
            int fault = number;
            Edges.nothingHappens("read() of " + text, house, x -> {
                x.sit(0, 0);
                x.hold(1);
                x.starch(1);
                x.keep(1, false);
                x.hours(3);
                x.tell(0, 0, 3, true);
            }, x -> {
                Checks.type(x, text);
                Edges.due("read() of " + text, fault, x.read());
            });
        }
    }

    private static void inPlaceOfTheOneAhead() {
        Edges.terms("else it is in place of the one ahead: hour 0, squares empty, not starched; nothing can be undone, nothing is TOLD, SLOTS hold "
            + "nothing.");
        String later = "chair d 3;chair e 1;head i 2 60 20 3 4;head j 1 8 50 49 0;visit i d 5;visit j e 6;moth 50;";
        for (String text : List.of("", "chair d 3;", later)) {
            HeadCloths x = Edges.of("chair c 4;chair b 1;chair a 2;head h 1 50 40 30 20;head g 1 99 99 99 99;visit h c 2;visit h b 3;moth 90;says 7;"
                + "monday 1;fades=1;keeps=9;passes=0;washes=1;seed 9;");
            x.keep(0, false);
            x.hours(30);
            for (int chair = 0; chair < 3; chair++) {
                x.sit(1, chair);
                x.starch(chair);
            }
            x.tell(0, 0, 1, true);
            x.hold(0);
            x.hold(1);
            x.hold(2);
            Checks.type(x, text);
            Edges.due("read()", 0, x.read());
            HeadCloths y = Edges.of(text);
            Edges.same("as a new one: " + text, x, y);
            for (int slot = 0; slot < 3; slot++) {
                Edges.due("restore(" + slot + ")", false, x.restore(slot));
            }
            Edges.due("undo()", false, x.undo());
            Edges.due("count(3)", 0, x.count(3));
            for (int i = 0; i < 20; i++) {
                Edges.due("a moth in hour " + 3 * i, y.count(12), x.count(12));
                x.hours(3);
                y.hours(3);
            }
            x.sit(0, 0);
            y.sit(0, 0);
            x.wash(0);
            y.wash(0);
            Edges.same("60 hours later: " + text, x, y);
        }
        manyTexts();
    }

    /** Nothing of the texts ahead, with faults or without, is left in the way. */
    private static void manyTexts() {
        HeadCloths x = new HeadCloths();
        for (int round = 1; round <= 9; round++) {
            Checks.type(x, "fades=8;says 3;keeps=" + "1+".repeat(190) + "1;" + (round % 3 == 0 ? "?" : ""));
            Edges.due("read(), round " + round, round % 3 == 0 ? 1 : 0, x.read());
        }
        Checks.type(x, "chair c 0;head h 0 90 49 0 0;keeps=" + "1+".repeat(30) + "9;");
        Edges.due("read()", 0, x.read());
        Edges.due("the last keeps", 39, x.tells(0, 0, 0, 0));
        Edges.due("fades is not told", 0, x.tells(0, 0, 0, 3));
        Edges.due("says is not told", 1, x.head(0, 5));
    }
}
