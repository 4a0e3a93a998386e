import java.util.function.Consumer;

/** The edges that promises 1 and 6 to 44 name: numbers that are none, calls that are refused, what is empty or full. */
public final class EdgesOfCallsTest {
    private static final int MIN = Edges.MIN;
    private static final int MAX = Edges.MAX;
    /** As many of each sort as there can be. */
    private static final String FULL = "chair a 1;chair b 2;chair c 3;chair d 9;head e 0 90 80 70 60;head f 1 50 0 50 0;head g 2 1 2 3 4;"
        + "head h 3 9 9 9 9;head i 9 99 0 0 49;visit e a 0;visit f b 1;visit g c 2;visit h d 3;visit i a 4;visit e b 5;visit f c 6;visit g d 22;"
        + "visit h a 23;visit i b 23;keeps=own/(which+2);passes=cloth/2;washes=cloth-mesh;fades=own/40;monday 1;moth 30;seed 12;";
    private static final String SMALL = "chair a 1;chair b 2;head e 0 90 80 70 60;head f 1 50 0 50 0;head g 2 1 2 3 4;visit e a 0;"
        + "keeps=own/4;passes=cloth/2;washes=cloth-mesh;";
    private static final String NO_CHAIRS = "head e 0 90 80 70 60;head f 1 50 0 50 0;";
    private static final String NO_HEADS = "chair a 1;chair b 2;";

    private EdgesOfCallsTest() {
    }

    public static void main(String[] args) {
        none();
        fiveHundredAndTwelveCalls();
        aNewObject();
        chair();
        head();
        visit();
        tells();
        tellsWhatIsNotLookedAt();
        tellsStarchedOrNot();
        sit();
        wash();
        starch();
        change();
        keep();
        hours();
        hoursRefused();
        undo();
        undoForty();
        sittings();
        alone();
        gain();
        bestChair();
        most();
        when();
        meet();
        without();
        alike();
        agree();
        fullest();
        share();
        foremost();
        saysIn();
        silent();
        lost();
        clean();
        headIn();
        chairIn();
        then();
        year();
        tell();
        forget();
        who();
        look();
        hold();
        restore();
        restoreRefused();
        count();
        countOfOthers();
        Edges.eachHasOne(1, 1);
        Edges.eachHasOne(6, 44);
        Checks.end("EdgesOfCallsTest");
    }

    /** Numbers that none of so many has. */
    private static int[] none(int size) {
        return new int[] {-1, -2, size, size + 1, MIN, MAX, 1 << 30, 1 << 30 | 1, 256 + size};
    }

    private static String call(String name, int... numbers) {
        return name + java.util.Arrays.toString(numbers);
    }

    private static void busy(HeadCloths x) {
        x.sit(0, 0);
        x.sit(1, 1);
        x.hold(1);
        x.starch(1);
        x.keep(0, false);
        x.hours(2);
        x.tell(0, 0, 5, true);
        x.wash(0);
    }

    private static void refused(String call, Consumer<HeadCloths> act) {
        Edges.nothingHappens(call, SMALL, EdgesOfCallsTest::busy, act);
    }

    private static void none() {
        Edges.terms("public static final int NONE = -1;");
        Edges.due("NONE", -1, HeadCloths.NONE);
    }

    private static void fiveHundredAndTwelveCalls() {
        Edges.terms("An object is used for at most 512 calls after it has been made");
        String text = "chair c 0;head h 0 99 0 0 0;";
        HeadCloths x = new HeadCloths();
        Checks.type(x, text);
        Edges.due("read(), the 4th call", 0, x.read());
        for (int i = 1; i <= 507; i++) {
            Edges.due("sit(0, 0)", true, x.sit(0, 0));
        }
        Edges.due("count(16), the 512th call", 507, x.count(16));
        x = new HeadCloths();
        for (int i = 1; i <= 512; i++) {
            Edges.due("hours(72)", 72 * i, x.hours(72));
        }
    }

    private static void aNewObject() {
        Edges.promise(1, "No CHAIRS, no HEADS.");
        HeadCloths x = new HeadCloths();
        for (int what = 0; what <= 18; what++) {
            Edges.due("count(" + what + ")", 0, x.count(what));
        }
        for (int what = 0; what <= 6; what++) {
            Edges.due("chair(0, " + what + ")", -1, x.chair(0, what));
            Edges.due("head(0, " + what + ")", -1, x.head(0, what));
            Edges.due("visit(0, " + what + ")", -1, x.visit(0, what));
        }
        for (int law = 0; law <= 3; law++) {
            Edges.due("tells(0, 0, 0, " + law + ")", -1, x.tells(0, 0, 0, law));
        }
        Edges.due("sit(0, 0)", false, x.sit(0, 0));
        Edges.due("change(0, 1)", false, x.change(0, 1));
        Edges.due("undo()", false, x.undo());
        Edges.due("place()", -1, x.place());
        Edges.due("silent(0)", 0, x.silent(0));
        Edges.due("meet(0, 1, 72)", 0, x.meet(0, 1, 72));
        Edges.due("then(72, 0)", 0, x.then(72, 0));
        Edges.due("hold(0)", true, x.hold(0));
        Edges.due("restore(0)", true, x.restore(0));
        Edges.due("hours(72)", 72, x.hours(72));
        Edges.due("undo()", true, x.undo());
        Edges.due("count(3)", 0, x.count(3));
    }

    private static void chair() {
        Edges.promise(6, "Of a CHAIR: what 0 .. 3 how much of that THOUGHT its square has, 4 MESH, 5: 1 STARCHED, else 0, 6 how often any sat there "
            + "so far. NONE for others.");
        HeadCloths full = Edges.of(FULL);
        HeadCloths small = Edges.of(SMALL);
        for (int what = -1; what <= 7; what++) {
            Edges.due(call("chair", 3, what), what < 0 || what > 6, full.chair(3, what) == -1);
        }
        for (int wrong : none(7)) {
            Edges.due(call("chair", 0, wrong), -1, full.chair(0, wrong));
        }
        for (int wrong : none(4)) {
            Edges.due(call("chair", wrong, 4), -1, full.chair(wrong, 4));
        }
        for (int wrong : none(2)) {
            Edges.due(call("chair", wrong, 0), -1, small.chair(wrong, 0));
        }
        int[] first = {0, 0, 0, 0, 9, 0, 0};
        int[] then = {45, 40, 35, 30, 9, 1, 2};
        for (int what = 0; what <= 6; what++) {
            Edges.due(call("chair", 3, what) + ", at first", first[what], full.chair(3, what));
        }
        full.sit(0, 3);
        full.starch(3);
        full.sit(1, 3);
        for (int what = 0; what <= 6; what++) {
            Edges.due(call("chair", 3, what), then[what], full.chair(3, what));
        }
        Edges.due("chair(1, 4), the last", 2, small.chair(1, 4));
    }

    private static void head() {
        Edges.promise(7, "Of a HEAD: what 0 .. 3 how much of that THOUGHT it has, 4 OIL, 5 what it SAYS (bits), 6 how often it sat so far. "
            + "NONE for others.");
        HeadCloths full = Edges.of(FULL);
        HeadCloths small = Edges.of(SMALL);
        for (int what = -1; what <= 7; what++) {
            Edges.due(call("head", 4, what), what < 0 || what > 6, full.head(4, what) == -1);
        }
        for (int wrong : none(7)) {
            Edges.due(call("head", 0, wrong), -1, full.head(0, wrong));
        }
        for (int wrong : none(5)) {
            Edges.due(call("head", wrong, 4), -1, full.head(wrong, 4));
        }
        for (int wrong : none(3)) {
            Edges.due(call("head", wrong, 0), -1, small.head(wrong, 0));
        }
        int[] first = {99, 0, 0, 49, 9, 1, 0};
        int[] then = {83, 0, 0, 41, 9, 1, 2};
        for (int what = 0; what <= 6; what++) {
            Edges.due(call("head", 4, what) + ", at first", first[what], full.head(4, what));
        }
        full.sit(4, 3);
        full.starch(3);
        full.sit(4, 3);
        for (int what = 0; what <= 6; what++) {
            Edges.due(call("head", 4, what), then[what], full.head(4, what));
        }
        Edges.due("head(2, 3), the last", 4, small.head(2, 3));
    }

    private static void visit() {
        Edges.promise(8, "Of a VISIT: what 0 HEAD, 1 CHAIR, 2 hour, 3: 1 kept, 0 given up. NONE for others.");
        HeadCloths full = Edges.of(FULL);
        HeadCloths small = Edges.of(SMALL);
        int[] last = {4, 1, 23, 1};
        for (int what = 0; what < 4; what++) {
            Edges.due(call("visit", 9, what), last[what], full.visit(9, what));
        }
        for (int wrong : none(4)) {
            Edges.due(call("visit", 0, wrong), -1, full.visit(0, wrong));
        }
        for (int wrong : none(10)) {
            Edges.due(call("visit", wrong, 3), -1, full.visit(wrong, 3));
        }
        for (int wrong : none(1)) {
            Edges.due(call("visit", wrong, 0), -1, small.visit(wrong, 0));
        }
        full.keep(9, false);
        Edges.due("visit(9, 3), given up", 0, full.visit(9, 3));
    }

    private static void tells() {
        Edges.promise(9, "NONE: no such ones.");
        HeadCloths x = Edges.of(FULL);
        for (int law = 0; law <= 3; law++) {
            for (int wrong : none(4)) {
                Edges.due(call("tells", 0, 0, wrong, law), -1, x.tells(0, 0, wrong, law));
                if (law != 3) {
                    Edges.due(call("tells", wrong, 0, 0, law), -1, x.tells(wrong, 0, 0, law));
                }
            }
            for (int wrong : none(5)) {
                if (law != 2) {
                    Edges.due(call("tells", 0, wrong, 0, law), -1, x.tells(0, wrong, 0, law));
                }
            }
        }
        for (int wrong : none(4)) {
            Edges.due(call("tells", 0, 0, 0, wrong), -1, x.tells(0, 0, 0, wrong));
        }
        HeadCloths y = Edges.of(NO_CHAIRS);
        int[] due = {-1, -1, -1, 0};
        for (int law = 0; law <= 3; law++) {
            Edges.due("no chairs: law " + law, due[law], y.tells(0, 0, 0, law));
        }
        y = Edges.of(NO_HEADS);
        int[] heads = {-1, -1, 0, -1};
        for (int law = 0; law <= 3; law++) {
            Edges.due("no heads: law " + law, heads[law], y.tells(0, 0, 0, law));
        }
    }

    private static void tellsWhatIsNotLookedAt() {
        Edges.promise(9, "HEAD not looked at for 2, CHAIR for 3");
        HeadCloths x = Edges.of("chair a 1;chair b 2;head e 3 90 80 70 60;keeps=20;washes=5;fades=7;");
        x.sit(0, 1);
        for (int any : new int[] {-1, 0, 1, 4, 5, 99, MIN, MAX}) {
            Edges.due(call("tells", 1, any, 0, 2), 5, x.tells(1, any, 0, 2));
            Edges.due(call("tells", any, 0, 0, 3), 7, x.tells(any, 0, 0, 3));
        }
        Edges.due("tells(2, 0, 0, 2)", -1, x.tells(2, 0, 0, 2));
        Edges.due("tells(0, 1, 0, 3)", -1, x.tells(0, 1, 0, 3));
    }

    private static void tellsStarchedOrNot() {
        Edges.promise(9, "KEEPS, PASSES: STARCHED or not");
        HeadCloths x = Edges.of("chair a 1;head e 3 90 80 70 60;keeps=20;passes=3;");
        x.sit(0, 0);
        for (int i = 0; i < 2; i++) {
            Edges.due("keeps", 20, x.tells(0, 0, 0, 0));
            Edges.due("passes", 3, x.tells(0, 0, 0, 1));
            Edges.due("washes", 20, x.tells(0, 0, 0, 2));
            Edges.due("starch(0)", i == 0, x.starch(0));
        }
    }

    private static void sit() {
        Edges.promise(10, "A SITTING: true; false, and nothing happens: no such ones.");
        HeadCloths x = Edges.of(FULL);
        Edges.due("sit(4, 3), the last ones", true, x.sit(4, 3));
        Edges.due("count(9)", 1, x.count(9));
        Edges.due("sit(4, 3), starched or not", true, x.starch(3) && x.sit(4, 3));
        for (int wrong : none(5)) {
            Edges.due(call("sit", wrong, 0), false, x.sit(wrong, 0));
        }
        for (int wrong : none(4)) {
            Edges.due(call("sit", 0, wrong), false, x.sit(0, wrong));
        }
        Edges.due("sit(0, 0), no chairs", false, Edges.of(NO_CHAIRS).sit(0, 0));
        Edges.due("sit(0, 0), no heads", false, Edges.of(NO_HEADS).sit(0, 0));
        refused("sit", y -> {
            for (int wrong : none(3)) {
                Edges.due(call("sit", wrong, 0), false, y.sit(wrong, 0));
            }
            for (int wrong : none(2)) {
                Edges.due(call("sit", 0, wrong), false, y.sit(0, wrong));
            }
        });
    }

    private static void wash() {
        Edges.promise(11, "A WASHING: how much goes into the SUDS; NONE, and nothing happens: no such CHAIR.");
        HeadCloths x = Edges.of(FULL);
        Edges.due("wash(3), the last one, empty", 0, x.wash(3));
        Edges.due("count(9): a thing done all the same", 1, x.count(9));
        x.sit(0, 0);
        // 45 40 35 30, but 1 of each
        Edges.due("wash(0)", 146, x.wash(0));
        Edges.due("wash(0), once more: 1 less 1", 0, x.wash(0));
        Edges.due("count(5)", 146, x.count(5));
        Edges.due("wash(0), no chairs", -1, Edges.of(NO_CHAIRS).wash(0));
        for (int wrong : none(4)) {
            Edges.due(call("wash", wrong), -1, x.wash(wrong));
        }
        refused("wash", y -> {
            for (int wrong : none(2)) {
                Edges.due(call("wash", wrong), -1, y.wash(wrong));
            }
        });
    }

    private static void starch() {
        Edges.promise(12, "STARCHED: true; false, and nothing happens: it is, no such CHAIR.");
        HeadCloths x = Edges.of(FULL);
        for (int chair = 0; chair < 4; chair++) {
            Edges.due(call("starch", chair), true, x.starch(chair));
            Edges.due(call("starch", chair) + ": it is", false, x.starch(chair));
            Edges.due("count(7)", (2 << chair) - 1, x.count(7));
            Edges.due("count(9)", chair + 1, x.count(9));
        }
        for (int wrong : none(4)) {
            Edges.due(call("starch", wrong), false, x.starch(wrong));
        }
        x.wash(2);
        Edges.due("starch(2), washed", true, x.starch(2));
        refused("starch", y -> {
            Edges.due("starch(1): it is", false, y.starch(1));
            for (int wrong : none(2)) {
                Edges.due(call("starch", wrong), false, y.starch(wrong));
            }
        });
        Edges.due("starch(0), no chairs", false, Edges.of(NO_CHAIRS).starch(0));
    }

    private static void change() {
        Edges.promise(13, "They change squares: true; false, and nothing happens: no such ones, one and the same.");
        HeadCloths x = Edges.of(FULL);
        Edges.due("change(0, 3), both empty", true, x.change(0, 3));
        Edges.due("count(9): a thing done all the same", 1, x.count(9));
        x.sit(0, 3);
        Edges.due("change(3, 0)", true, x.change(3, 0));
        Edges.squares("change(3, 0)", x, 0, 45, 40, 35, 30);
        Edges.squares("change(3, 0)", x, 3, 0, 0, 0, 0);
        Edges.due("change(0, 3)", true, x.change(0, 3));
        Edges.squares("change(0, 3)", x, 3, 45, 40, 35, 30);
        refused("change", y -> {
            Edges.due("change(0, 0)", false, y.change(0, 0));
            Edges.due("change(1, 1)", false, y.change(1, 1));
            for (int wrong : none(2)) {
                Edges.due(call("change", wrong, 0), false, y.change(wrong, 0));
                Edges.due(call("change", 0, wrong), false, y.change(0, wrong));
                Edges.due(call("change", wrong, wrong), false, y.change(wrong, wrong));
            }
        });
        for (int wrong : none(4)) {
            Edges.due(call("change", wrong, 0), false, x.change(wrong, 0));
            Edges.due(call("change", 3, wrong), false, x.change(3, wrong));
        }
        Edges.due("change(0, 1) of one", false, Edges.of("chair a 1;").change(0, 1));
    }

    private static void keep() {
        Edges.promise(14, "A VISIT is kept, or given up: true; false, and nothing happens: it is so, no such VISIT.");
        HeadCloths x = Edges.of(FULL);
        for (int visit = 0; visit < 10; visit++) {
            Edges.due(call("keep", visit) + " true: it is so", false, x.keep(visit, true));
            Edges.due(call("keep", visit) + " false", true, x.keep(visit, false));
            Edges.due(call("keep", visit) + " false: it is so", false, x.keep(visit, false));
            Edges.due("count(14)", 1023 & -(2 << visit), x.count(14));
        }
        Edges.due("count(9)", 10, x.count(9));
        x.hours(24);
        Edges.due("none came", 0, x.count(16));
        Edges.due("keep(9, true)", true, x.keep(9, true));
        x.hours(24);
        Edges.due("one came", 1, x.count(16));
        for (int wrong : none(10)) {
            Edges.due(call("keep", wrong) + " true", false, x.keep(wrong, true));
            Edges.due(call("keep", wrong) + " false", false, x.keep(wrong, false));
        }
        refused("keep", y -> {
            Edges.due("keep(0, false): it is so", false, y.keep(0, false));
            for (int wrong : none(1)) {
                Edges.due(call("keep", wrong) + " true", false, y.keep(wrong, true));
                Edges.due(call("keep", wrong) + " false", false, y.keep(wrong, false));
            }
        });
    }

    private static void hours() {
        Edges.promise(15, "n HOURS (0 .. 72; 0 is no thing done) go by: which it is, counted on");
        HeadCloths x = Edges.of(FULL);
        Edges.due("hours(0)", 0, x.hours(0));
        Edges.due("count(9)", 0, x.count(9));
        Edges.due("undo()", false, x.undo());
        Edges.due("hours(1)", 1, x.hours(1));
        Edges.due("hours(72)", 73, x.hours(72));
        Edges.due("hours(71)", 144, x.hours(71));
        Edges.due("hours(0)", 144, x.hours(0));
        Edges.due("count(9)", 3, x.count(9));
        Edges.due("undo() of 71", true, x.undo());
        Edges.due("count(3)", 73, x.count(3));
        // many at once are as many one by one
        HeadCloths y = Edges.of(FULL);
        for (int i = 0; i < 73; i++) {
            y.hours(1);
        }
        HeadCloths z = Edges.of(FULL);
        z.hours(1);
        z.hours(72);
        for (int head = 0; head < 5; head++) {
            Edges.owns("one by one", z, head, y.head(head, 0), y.head(head, 1), y.head(head, 2), y.head(head, 3));
        }
        Edges.due("count(5)", y.count(5), z.count(5));
        refused("hours(0)", w -> Edges.due("hours(0)", 2, w.hours(0)));
    }

    private static void hoursRefused() {
        Edges.promise(15, "NONE, and nothing happens: no such n.");
        refused("hours", x -> {
            for (int wrong : new int[] {-1, -72, 73, 74, 144, MIN, MAX}) {
                Edges.due(call("hours", wrong), -1, x.hours(wrong));
            }
        });
    }

    private static void undo() {
        Edges.promise(16, "The last thing done (sit, wash, starch, change, keep, hours) is undone: true; false: there is none");
        HeadCloths x = Edges.of(SMALL);
        HeadCloths y = Edges.of(SMALL);
        Edges.due("undo()", false, x.undo());
        Edges.due("undo()", false, x.undo());
        for (int what = 0; what < 6; what++) {
            do1(x, what);
            Edges.due("count(9), thing " + what, 1, x.count(9));
            Edges.due("undo(), thing " + what, true, x.undo());
            Edges.due("undo(), thing " + what, false, x.undo());
            Edges.due("count(3), thing " + what, 0, x.count(3));
        }
        Edges.same("all undone", x, y);
        // one behind the other, and back
        HeadCloths[] past = new HeadCloths[6];
        for (int what = 0; what < 6; what++) {
            past[what] = Edges.of(SMALL);
            for (int ahead = 0; ahead < what; ahead++) {
                do1(past[what], ahead);
            }
            do1(y, what);
        }
        for (int what = 5; what >= 0; what--) {
            Edges.due("undo() of thing " + what, true, y.undo());
            Edges.same("behind undo() of thing " + what, y, past[what]);
        }
        Edges.due("undo()", false, y.undo());
        // what is no thing done: told, held, fed
        x = Edges.of(SMALL);
        x.tell(0, 0, 1, true);
        x.hold(0);
        x.feed(1, 2, 3, 4, 5);
        x.forget();
        Edges.due("undo()", false, x.undo());
    }

    private static void do1(HeadCloths x, int what) {
        switch (what) {
            case 0 -> x.sit(0, 0);
            case 1 -> x.starch(0);
            case 2 -> x.change(0, 1);
            case 3 -> x.wash(1);
            case 4 -> x.keep(0, false);
            default -> x.hours(5);
        }
    }

    private static void undoForty() {
        Edges.promise(16, "(the last 40 can be)");
        for (int things : new int[] {39, 40, 41, 80, 81, 123}) {
            HeadCloths x = Edges.of(SMALL);
            for (int i = 1; i <= things; i++) {
                Edges.due("hours(1)", i, x.hours(1));
            }
            Edges.due("count(9) behind " + things, Math.min(40, things), x.count(9));
            for (int i = 1; i <= Math.min(40, things); i++) {
                Edges.due("undo() " + i, true, x.undo());
                Edges.due("count(3)", things - i, x.count(3));
            }
            Edges.due("undo() beyond, of " + things, false, x.undo());
            Edges.due("count(3)", Math.max(0, things - 40), x.count(3));
            Edges.due("count(9)", 0, x.count(9));
            x.sit(0, 0);
            Edges.due("one more can be", true, x.undo());
            Edges.due("and no more", false, x.undo());
        }
    }

    private static void sittings() {
        Edges.promise(17, "SITTINGS: how many (i NONE), else the i-th (10 * the HEAD + the CHAIR); -2: not by three (i NONE or not); "
            + "NONE: no such ones (i 0 .. 2), not so many.");
        HeadCloths x = Edges.of("chair c 0;head a 0 20 0 0 0;head b 0 20 0 0 0;says 30;"
            + "keeps=if which<1then 0else own;passes=if which<1then cloth else 0;");
        int[] due = {2, 10, 0, -1};
        for (int i = -1; i < 3; i++) {
            Edges.due(call("sittings", 0, 0, i), due[i + 1], x.sittings(0, 0, i));
            Edges.due(call("sittings", 1, 0, i) + ": not by three", -2, x.sittings(1, 0, i));
        }
        for (int i : new int[] {-2, 3, 4, MIN, MAX}) {
            Edges.due(call("sittings", 0, 0, i), -1, x.sittings(0, 0, i));
            Edges.due(call("sittings", 1, 0, i), -1, x.sittings(1, 0, i));
        }
        for (int wrong : none(2)) {
            Edges.due(call("sittings", wrong, 0, -1), -1, x.sittings(wrong, 0, -1));
            Edges.due(call("sittings", wrong, 0, 0), -1, x.sittings(wrong, 0, 0));
        }
        for (int wrong : none(4)) {
            Edges.due(call("sittings", 0, wrong, -1), -1, x.sittings(0, wrong, -1));
            Edges.due(call("sittings", 1, wrong, 2), -1, x.sittings(1, wrong, 2));
        }
        x = Edges.of("head a 0 20 0 0 0;says 20;");
        Edges.due("no chairs, it says it: how many", 0, x.sittings(0, 0, -1));
        Edges.due("no chairs, it says it: not so many", -1, x.sittings(0, 0, 0));
        Edges.due("no chairs", -2, x.sittings(0, 1, -1));
        Edges.due("no heads", -1, Edges.of(NO_HEADS).sittings(0, 0, -1));
    }

    private static void alone() {
        Edges.promise(18, "ALONE; -2: not; NONE: no such ones.");
        HeadCloths x = Edges.of(FULL);
        Edges.due("alone(0, 3, 0)", 0, x.alone(0, 3, 0));
        Edges.due("alone(2, 3, 0)", -2, x.alone(2, 3, 0));
        for (int wrong : none(5)) {
            Edges.due(call("alone", wrong, 0, 0), -1, x.alone(wrong, 0, 0));
        }
        for (int wrong : none(4)) {
            Edges.due(call("alone", 0, wrong, 0), -1, x.alone(0, wrong, 0));
            Edges.due(call("alone", 0, 0, wrong), -1, x.alone(0, 0, wrong));
        }
        Edges.due("no chairs", -1, Edges.of(NO_CHAIRS).alone(0, 0, 0));
        Edges.due("no heads", -1, Edges.of(NO_HEADS).alone(0, 0, 0));
    }

    private static void gain() {
        Edges.promise(19, "GAIN; -100000: no such ones.");
        HeadCloths x = Edges.of(FULL);
        Edges.due("gain(4, 3, 0), the last ones", -16, x.gain(4, 3, 0));
        for (int wrong : none(5)) {
            Edges.due(call("gain", wrong, 0, 0), -100000, x.gain(wrong, 0, 0));
        }
        for (int wrong : none(4)) {
            Edges.due(call("gain", 0, wrong, 0), -100000, x.gain(0, wrong, 0));
            Edges.due(call("gain", 0, 0, wrong), -100000, x.gain(0, 0, wrong));
        }
        Edges.due("no chairs", -100000, Edges.of(NO_CHAIRS).gain(0, 0, 0));
        Edges.due("no heads", -100000, Edges.of(NO_HEADS).gain(0, 0, 0));
    }

    private static void bestChair() {
        Edges.promise(20, "BEST CHAIR; -2: there are none; NONE: no such ones.");
        HeadCloths x = Edges.of(FULL);
        Edges.due("bestChair(4, 3)", 0, x.bestChair(4, 3));
        for (int wrong : none(5)) {
            Edges.due(call("bestChair", wrong, 0), -1, x.bestChair(wrong, 0));
        }
        for (int wrong : none(4)) {
            Edges.due(call("bestChair", 0, wrong), -1, x.bestChair(0, wrong));
        }
        x = Edges.of(NO_CHAIRS);
        Edges.due("no chairs", -2, x.bestChair(1, 3));
        Edges.due("no chairs, no such head", -1, x.bestChair(2, 0));
        Edges.due("no chairs, no such thought", -1, x.bestChair(0, 4));
        Edges.due("no heads", -1, Edges.of(NO_HEADS).bestChair(0, 0));
    }

    private static void most() {
        Edges.promise(21, "MOST: what 0 the HEAD, 1 the CHAIR; -2: there are none; NONE: no such ones.");
        HeadCloths x = Edges.of(FULL);
        Edges.due("most(0, 0), the last", 4, x.most(0, 0));
        Edges.due("most(3, 1)", 0, x.most(3, 1));
        for (int wrong : none(4)) {
            Edges.due(call("most", wrong, 0), -1, x.most(wrong, 0));
            Edges.due(call("most", wrong, 1), -1, x.most(wrong, 1));
        }
        for (int wrong : none(2)) {
            Edges.due(call("most", 0, wrong), -1, x.most(0, wrong));
        }
        x = Edges.of(NO_CHAIRS);
        Edges.due("no chairs: most(0, 1)", -2, x.most(0, 1));
        Edges.due("no chairs: most(0, 0)", 0, x.most(0, 0));
        Edges.due("no chairs: most(4, 1)", -1, x.most(4, 1));
        x = Edges.of(NO_HEADS);
        Edges.due("no heads: most(0, 0)", -2, x.most(0, 0));
        Edges.due("no heads: most(0, 1)", 0, x.most(0, 1));
        Edges.due("no heads: most(0, 2)", -1, x.most(0, 2));
    }

    private static void when() {
        Edges.promise(22, "WHEN; -2: not; NONE: no such ones.");
        HeadCloths x = Edges.of(FULL);
        Edges.due("when(4, 0)", 0, x.when(4, 0));
        Edges.due("when(4, 2)", -2, x.when(4, 2));
        for (int wrong : none(5)) {
            Edges.due(call("when", wrong, 0), -1, x.when(wrong, 0));
        }
        for (int wrong : none(4)) {
            Edges.due(call("when", 0, wrong), -1, x.when(0, wrong));
        }
        Edges.due("no chairs", -2, Edges.of(NO_CHAIRS).when(1, 1));
        Edges.due("no heads", -1, Edges.of(NO_HEADS).when(0, 0));
    }

    private static void meet() {
        Edges.promise(23, "MEET (bits); NONE: no such ones, one and the same.");
        HeadCloths x = Edges.of(FULL);
        Edges.due("meet(0, 2, 0)", 3, x.meet(0, 2, 0));
        Edges.due("meet(3, 0, 0)", 1, x.meet(3, 0, 0));
        for (int t = 0; t < 4; t++) {
            Edges.due(call("meet", t, t, 0), -1, x.meet(t, t, 0));
        }
        for (int wrong : none(4)) {
            Edges.due(call("meet", wrong, 0, 0), -1, x.meet(wrong, 0, 0));
            Edges.due(call("meet", 0, wrong, 0), -1, x.meet(0, wrong, 0));
        }
        for (int wrong : new int[] {-1, 73, MIN, MAX}) {
            Edges.due(call("meet", 0, 1, wrong), -1, x.meet(0, 1, wrong));
        }
        Edges.due("no heads", 0, Edges.of(NO_HEADS).meet(0, 1, 72));
    }

    private static void without() {
        Edges.promise(24, "WITHOUT; NONE: no such ones.");
        HeadCloths x = Edges.of(FULL);
        Edges.due("without(9, 0, 1), the last", 97, x.without(9, 0, 1));
        for (int wrong : none(10)) {
            Edges.due(call("without", wrong, 0, 1), -1, x.without(wrong, 0, 1));
        }
        for (int wrong : none(4)) {
            Edges.due(call("without", 0, wrong, 1), -1, x.without(0, wrong, 1));
        }
        for (int wrong : new int[] {0, -1, 73, MIN, MAX}) {
            Edges.due(call("without", 0, 0, wrong), -1, x.without(0, 0, wrong));
        }
        Edges.due("no visits", -1, Edges.of(NO_CHAIRS).without(0, 0, 1));
        for (int wrong : none(1)) {
            Edges.due(call("without", wrong, 0, 1), -1, Edges.of(SMALL).without(wrong, 0, 1));
        }
    }

    private static void alike() {
        Edges.promise(25, "ALIKE: what 0 the two (10 * the lesser + the other), 1 how much; -2: there are not two. NONE for others.");
        for (String few : new String[] {NO_CHAIRS, "chair a 1;", ""}) {
            HeadCloths x = Edges.of(few);
            Edges.due("alike(0) of " + few, -2, x.alike(0));
            Edges.due("alike(1) of " + few, -2, x.alike(1));
            for (int wrong : none(2)) {
                Edges.due(call("alike", wrong), -1, x.alike(wrong));
            }
        }
        HeadCloths x = Edges.of(FULL);
        x.sit(0, 0);
        x.sit(4, 1);
        x.sit(3, 2);
        x.sit(3, 3);
        // 45 40 35 30, 16 0 0 8, 1 1 1 1 twice
        Edges.due("alike(0), the last two", 23, x.alike(0));
        Edges.due("alike(1)", 0, x.alike(1));
        for (int wrong : none(2)) {
            Edges.due(call("alike", wrong), -1, x.alike(wrong));
        }
    }

    private static void agree() {
        Edges.promise(26, "AGREE: likewise, of HEADS.");
        for (String few : new String[] {NO_HEADS, "head a 1 1 1 1 1;", ""}) {
            HeadCloths x = Edges.of(few);
            Edges.due("agree(0) of " + few, -2, x.agree(0));
            Edges.due("agree(1) of " + few, -2, x.agree(1));
            for (int wrong : none(2)) {
                Edges.due(call("agree", wrong), -1, x.agree(wrong));
            }
        }
        HeadCloths x = Edges.of(FULL);
        Edges.due("agree(0)", 23, x.agree(0));
        Edges.due("agree(1)", 8 + 7 + 6 + 5, x.agree(1));
        for (int wrong : none(2)) {
            Edges.due(call("agree", wrong), -1, x.agree(wrong));
        }
    }

    private static void fullest() {
        Edges.promise(27, "FULLEST: what 0 which, 1 how much; -2: no HEADS. NONE for others.");
        for (String few : new String[] {NO_HEADS, ""}) {
            HeadCloths x = Edges.of(few);
            Edges.due("fullest(0) of " + few, -2, x.fullest(0));
            Edges.due("fullest(1) of " + few, -2, x.fullest(1));
            for (int wrong : none(2)) {
                Edges.due(call("fullest", wrong), -1, x.fullest(wrong));
            }
        }
        HeadCloths x = Edges.of(FULL);
        Edges.due("fullest(0)", 0, x.fullest(0));
        Edges.due("fullest(1)", 300, x.fullest(1));
        for (int wrong : none(2)) {
            Edges.due(call("fullest", wrong), -1, x.fullest(wrong));
        }
    }

    private static void share() {
        Edges.promise(28, "SHARE; NONE: no such ones.");
        HeadCloths x = Edges.of(FULL);
        Edges.due("share(3, 3), empty", 0, x.share(3, 3));
        for (int wrong : none(4)) {
            Edges.due(call("share", wrong, 0), -1, x.share(wrong, 0));
            Edges.due(call("share", 0, wrong), -1, x.share(0, wrong));
        }
        for (int wrong : none(2)) {
            Edges.due(call("share", wrong, 0), -1, Edges.of(SMALL).share(wrong, 0));
        }
        Edges.due("no chairs", -1, Edges.of(NO_CHAIRS).share(0, 0));
    }

    private static void foremost() {
        Edges.promise(29, "Of which THOUGHT a HEAD has most now, of alike ones the first; NONE: no such HEAD.");
        HeadCloths x = Edges.of("head a 0 9 9 9 9;head b 0 1 9 9 1;head c 0 1 2 3 4;head d 0 0 0 0 0;head e 0 4 3 2 5;");
        int[] due = {0, 1, 3, 0, 3};
        for (int head = 0; head < 5; head++) {
            Edges.due(call("foremost", head), due[head], x.foremost(head));
        }
        for (int wrong : none(5)) {
            Edges.due(call("foremost", wrong), -1, x.foremost(wrong));
        }
        for (int wrong : none(3)) {
            Edges.due(call("foremost", wrong), -1, Edges.of(SMALL).foremost(wrong));
        }
        Edges.due("no heads", -1, Edges.of(NO_HEADS).foremost(0));
        x = Edges.of("chair c 0;head a 0 9 8 7 6;keeps=if thought<1then 2else 0;");
        x.sit(0, 0);
        Edges.due("now", 1, x.foremost(0));
    }

    private static void saysIn() {
        Edges.promise(30, "IN n HOURS (0 .. 72; with MOTHS) what a HEAD SAYS (bits); NONE: no such ones.");
        HeadCloths x = Edges.of(FULL);
        Edges.due("saysIn(0, 0)", 15, x.saysIn(0, 0));
        Edges.due("saysIn(4, 0)", 1, x.saysIn(4, 0));
        Edges.due("saysIn(4, 72)", 0, x.saysIn(4, 72));
        for (int wrong : none(5)) {
            Edges.due(call("saysIn", wrong, 0), -1, x.saysIn(wrong, 0));
        }
        for (int wrong : none(73)) {
            Edges.due(call("saysIn", 0, wrong), -1, x.saysIn(0, wrong));
        }
        Edges.due("no heads", -1, Edges.of(NO_HEADS).saysIn(0, 0));
    }

    private static void silent() {
        Edges.promise(31, "SILENT; -2: not; NONE: no such THOUGHT.");
        HeadCloths x = Edges.of(NO_CHAIRS);
        Edges.due("silent(0)", -2, x.silent(0));
        Edges.due("silent(1)", -2, x.silent(1));
        for (int wrong : none(4)) {
            Edges.due(call("silent", wrong), -1, x.silent(wrong));
            Edges.due(call("silent", wrong) + ", no heads", -1, Edges.of(NO_HEADS).silent(wrong));
        }
        Edges.due("silent(3), no heads", 0, Edges.of(NO_HEADS).silent(3));
    }

    private static void lost() {
        Edges.promise(32, "LOST; NONE: no such n.");
        HeadCloths x = Edges.of(FULL);
        Edges.due("lost(0)", 0, x.lost(0));
        for (int wrong : none(73)) {
            Edges.due(call("lost", wrong), -1, x.lost(wrong));
        }
        Edges.due("lost(72), nothing goes", 0, Edges.of(NO_CHAIRS).lost(72));
        Edges.due("lost(72), nothing is", 0, Edges.of("").lost(72));
    }

    private static void clean() {
        Edges.promise(33, "CLEAN: what 0 which, 1 how much; -2: no CHAIRS. NONE for others.");
        for (String few : new String[] {NO_CHAIRS, ""}) {
            HeadCloths x = Edges.of(few);
            Edges.due("clean(0) of " + few, -2, x.clean(0));
            Edges.due("clean(1) of " + few, -2, x.clean(1));
            for (int wrong : none(2)) {
                Edges.due(call("clean", wrong), -1, x.clean(wrong));
            }
        }
        HeadCloths x = Edges.of(FULL);
        x.sit(0, 3);
        Edges.due("clean(0), the last", 3, x.clean(0));
        Edges.due("clean(1): 45 40 35 30, but 9 of each", 114, x.clean(1));
        for (int wrong : none(2)) {
            Edges.due(call("clean", wrong), -1, x.clean(wrong));
        }
    }

    private static void headIn() {
        Edges.promise(34, "IN n HOURS how much a HEAD has of a THOUGHT; NONE: no such ones.");
        HeadCloths x = Edges.of(FULL);
        Edges.due("headIn(4, 3, 0)", 49, x.headIn(4, 3, 0));
        for (int wrong : none(5)) {
            Edges.due(call("headIn", wrong, 0, 0), -1, x.headIn(wrong, 0, 0));
        }
        for (int wrong : none(4)) {
            Edges.due(call("headIn", 0, wrong, 0), -1, x.headIn(0, wrong, 0));
        }
        for (int wrong : none(73)) {
            Edges.due(call("headIn", 0, 0, wrong), -1, x.headIn(0, 0, wrong));
        }
        Edges.due("no heads", -1, Edges.of(NO_HEADS).headIn(0, 0, 0));
    }

    private static void chairIn() {
        Edges.promise(35, "IN n HOURS how much a CHAIR's square has of a THOUGHT; NONE: no such ones.");
        HeadCloths x = Edges.of(FULL);
        Edges.due("chairIn(3, 3, 0)", 0, x.chairIn(3, 3, 0));
        Edges.due("chairIn(3, 3, 4)", 1, x.chairIn(3, 3, 4));
        for (int wrong : none(4)) {
            Edges.due(call("chairIn", wrong, 0, 0), -1, x.chairIn(wrong, 0, 0));
            Edges.due(call("chairIn", 0, wrong, 0), -1, x.chairIn(0, wrong, 0));
        }
        for (int wrong : none(73)) {
            Edges.due(call("chairIn", 0, 0, wrong), -1, x.chairIn(0, 0, wrong));
        }
        for (int wrong : none(2)) {
            Edges.due(call("chairIn", wrong, 0, 0), -1, Edges.of(SMALL).chairIn(wrong, 0, 0));
        }
        Edges.due("no chairs", -1, Edges.of(NO_CHAIRS).chairIn(0, 0, 0));
    }

    private static void then() {
        Edges.promise(36, "IN n HOURS: what 0 .. 3 who SAYS that THOUGHT (bits), 4 the SUDS; NONE: no such ones.");
        HeadCloths x = Edges.of(FULL);
        int[] due = {19, 1, 3, 1, 0};
        for (int what = 0; what < 5; what++) {
            Edges.due(call("then", 0, what), due[what], x.then(0, what));
        }
        for (int wrong : none(5)) {
            Edges.due(call("then", 0, wrong), -1, x.then(0, wrong));
        }
        for (int wrong : none(73)) {
            Edges.due(call("then", wrong, 4), -1, x.then(wrong, 4));
            Edges.due(call("then", wrong, 0), -1, x.then(wrong, 0));
        }
        Edges.due("no heads", 0, Edges.of(NO_HEADS).then(72, 3));
    }

    private static void year() {
        Edges.promise(37, "YEAR; NONE: no such ones.");
        HeadCloths x = Edges.of(FULL);
        Edges.due("year(4, 0, 0, 20)", 20, x.year(4, 0, 0, 20));
        Edges.due("year(4, 3, 0, 1)", 0, x.year(4, 3, 0, 1));
        for (int wrong : none(5)) {
            Edges.due(call("year", wrong, 0, 0, 1), -1, x.year(wrong, 0, 0, 1));
        }
        for (int wrong : none(4)) {
            Edges.due(call("year", 0, wrong, 0, 1), -1, x.year(0, wrong, 0, 1));
        }
        for (int wrong : none(73)) {
            Edges.due(call("year", 0, 0, wrong, 1), -1, x.year(0, 0, wrong, 1));
        }
        for (int wrong : none(21)) {
            Edges.due(call("year", 0, 0, 0, wrong), -1, x.year(0, 0, 0, wrong));
        }
        Edges.due("year, s 0", -1, x.year(0, 0, 0, 0));
        Edges.due("no heads", -1, Edges.of(NO_HEADS).year(0, 0, 0, 1));
    }

    private static void tell() {
        Edges.promise(38, "It is TOLD: its number; NONE, and nothing happens: 20 are there, no such ones.");
        HeadCloths x = Edges.of(FULL);
        Edges.due("tell(3, 3, 999, true), the last ones", 0, x.tell(3, 3, 999, true));
        Edges.due("tell(0, 0, 0, false), the first ones", 1, x.tell(0, 0, 0, false));
        for (int wrong : none(4)) {
            Edges.due(call("tell", wrong, 0, 0), -1, x.tell(wrong, 0, 0, true));
            Edges.due(call("tell", 0, wrong, 0), -1, x.tell(0, wrong, 0, false));
        }
        for (int wrong : none(1000)) {
            Edges.due(call("tell", 0, 0, wrong), -1, x.tell(0, 0, wrong, true));
        }
        Edges.due("count(10)", 2, x.count(10));
        Edges.due("tell, no chairs", -1, Edges.of(NO_CHAIRS).tell(0, 0, 0, true));
        Edges.due("tell, no heads", 0, Edges.of(NO_HEADS).tell(1, 0, 0, true));
        refused("tell", y -> {
            Edges.due("tell", -1, y.tell(2, 0, 0, false));
            Edges.due("tell", -1, y.tell(0, 4, 0, false));
            Edges.due("tell", -1, y.tell(0, 0, 1000, false));
            Edges.due("tell", -1, y.tell(0, 0, -1, false));
        });
        Edges.nothingHappens("tell, a 21st", SMALL, y -> {
            busy(y);
            for (int i = 1; i < 20; i++) {
                y.tell(i % 2, i % 4, i, i % 3 > 0);
            }
        }, y -> {
            Edges.due("tell", -1, y.tell(0, 0, 0, false));
            Edges.due("tell", -1, y.tell(0, 0, 999, true));
        });
    }

    private static void forget() {
        Edges.promise(39, "All that was TOLD is forgotten: how many there were.");
        HeadCloths x = Edges.of(SMALL);
        Edges.due("forget() of nothing", 0, x.forget());
        for (int size = 1; size <= 20; size++) {
            for (int i = 0; i < size; i++) {
                x.tell(0, 0, 999, true);
            }
            Edges.due("forget()", size, x.forget());
            Edges.due("count(10)", 0, x.count(10));
            Edges.due("who(1, 0)", -1, x.who(1, 0));
        }
        Edges.due("forget() once more", 0, x.forget());
        Edges.due("who(0, 0): all are left", 3, x.who(0, 0));
    }

    private static void who() {
        Edges.promise(40, "WHO, as KNOWN by k: what 0 how many, 1 which (bits); NONE: no such ones.");
        HeadCloths x = Edges.of(FULL);
        for (int size = 0; size <= 20; size++) {
            Edges.due(call("who", size, 1), 31, x.who(size, 1));
            Edges.due(call("who", size, 0), 5, x.who(size, 0));
            Edges.due(call("who", size + 1, 0), -1, x.who(size + 1, 0));
            Edges.due(call("who", size + 1, 1), -1, x.who(size + 1, 1));
            x.tell(3, 3, 0, true);
        }
        for (int wrong : none(21)) {
            Edges.due(call("who", wrong, 0), -1, x.who(wrong, 0));
        }
        for (int wrong : none(2)) {
            Edges.due(call("who", 0, wrong), -1, x.who(0, wrong));
        }
    }

    private static void look() {
        Edges.promise(41, "LOOK by v (0 .. 999), as KNOWN by k (10 * the CHAIR + the THOUGHT); -2: none is left, no CHAIRS; NONE: no such ones.");
        HeadCloths x = Edges.of(FULL);
        Edges.due("look(0, 0)", 0, x.look(0, 0));
        Edges.due("look(0, 999)", 0, x.look(0, 999));
        for (int wrong : none(1000)) {
            Edges.due(call("look", 0, wrong), -1, x.look(0, wrong));
        }
        for (int wrong : none(1)) {
            Edges.due(call("look", wrong, 0), -1, x.look(wrong, 0));
        }
        x.tell(0, 0, 0, false);
        Edges.due("look(1, 0): none is left", -2, x.look(1, 0));
        Edges.due("look(0, 0): all are", 0, x.look(0, 0));
        Edges.due("look(1, 1000): none is left", -1, x.look(1, 1000));
        Edges.due("look(2, 0): none is left", -1, x.look(2, 0));
        x = Edges.of(NO_CHAIRS);
        Edges.due("look(0, 0): no chairs", -2, x.look(0, 0));
        Edges.due("look(0, 999): no chairs", -2, x.look(0, 999));
        Edges.due("look(0, 1000): no chairs", -1, x.look(0, 1000));
        Edges.due("look(1, 0): no chairs", -1, x.look(1, 0));
        Edges.due("look(0, 0): no heads", -2, Edges.of(NO_HEADS).look(0, 0));
        // the last chair and the last thought
        x = Edges.of("chair a 0;chair b 0;chair c 0;chair d 1;head g 0 5 5 5 0;head h 0 5 5 5 9;keeps=own*mesh;");
        Edges.due("look(0, 9)", 33, x.look(0, 9));
    }

    private static void hold() {
        Edges.promise(42, "All that goes on (not what is TOLD, nor the tape) is held in a SLOT (0 .. 2): true; false: no such one.");
        for (int slot = 0; slot < 3; slot++) {
            int one = slot;
            Edges.nothingHappens(call("hold", slot) + " of what is held already", SMALL, x -> {
                busy(x);
                x.hold(one);
                x.hold(0);
                x.hold(2);
            }, x -> Edges.due(call("hold", one), true, x.hold(one)));
        }
        refused("hold", x -> {
            for (int wrong : none(3)) {
                Edges.due(call("hold", wrong), false, x.hold(wrong));
            }
        });
        HeadCloths x = Edges.of(SMALL);
        busy(x);
        Edges.due("hold(2)", true, x.hold(2));
        HeadCloths y = Edges.of(SMALL);
        busy(y);
        x.sit(2, 0);
        x.starch(0);
        x.change(0, 1);
        x.keep(0, true);
        x.hours(30);
        x.tell(1, 1, 9, false);
        x.feed(1, 2, 3, 4, 5);
        Edges.due("restore(2)", true, x.restore(2));
        Edges.due("count(10): what is told is not held", 2, x.count(10));
        Edges.due("count(8): the tape is not held", 20, x.count(8));
        Edges.due("count(9)", 0, x.count(9));
        for (int what : new int[] {3, 4, 5, 6, 7, 12, 13, 14, 15, 16, 17}) {
            Edges.due("count(" + what + ")", y.count(what), x.count(what));
        }
        for (int chair = 0; chair < 2; chair++) {
            for (int what = 0; what <= 6; what++) {
                Edges.due(call("chair", chair, what), y.chair(chair, what), x.chair(chair, what));
            }
        }
        for (int head = 0; head < 3; head++) {
            for (int what = 0; what <= 6; what++) {
                Edges.due(call("head", head, what), y.head(head, what), x.head(head, what));
            }
        }
        Edges.due("visit(0, 3)", y.visit(0, 3), x.visit(0, 3));
    }

    private static void restore() {
        Edges.promise(43, "It goes on from what a SLOT holds (that stays there; nothing can be undone then): true");
        HeadCloths x = Edges.of(SMALL);
        for (int slot = 0; slot < 3; slot++) {
            x.hours(slot + 1);
            x.hold(slot);
        }
        int[] hours = {1, 3, 6};
        for (int round = 0; round < 2; round++) {
            for (int slot : new int[] {2, 0, 1, 1}) {
                x.sit(0, 0);
                Edges.due(call("restore", slot), true, x.restore(slot));
                Edges.due("count(3)", hours[slot], x.count(3));
                Edges.due("count(16): the visit of hour 0", 1, x.count(16));
                Edges.due("count(9)", 0, x.count(9));
                Edges.due("undo()", false, x.undo());
                Edges.due("count(11)", 3, x.count(11));
            }
        }
        // it goes on: what is done then changes no slot, and can be undone
        x.restore(0);
        x.hours(5);
        Edges.due("count(3)", 6, x.count(3));
        Edges.due("undo()", true, x.undo());
        Edges.due("count(3)", 1, x.count(3));
        // what is held anew is in place of it
        x.hours(9);
        x.hold(0);
        x.restore(1);
        x.restore(0);
        Edges.due("count(3)", 10, x.count(3));
    }

    private static void restoreRefused() {
        Edges.promise(43, "false, and nothing happens: no such one, nothing is held.");
        refused("restore", x -> {
            Edges.due("restore(0): nothing is held", false, x.restore(0));
            Edges.due("restore(2): nothing is held", false, x.restore(2));
            for (int wrong : none(3)) {
                Edges.due(call("restore", wrong), false, x.restore(wrong));
            }
        });
        HeadCloths x = Edges.of(SMALL);
        for (int slot = 0; slot < 3; slot++) {
            Edges.due(call("restore", slot), false, x.restore(slot));
        }
        x.hold(1);
        Edges.due("restore(0)", false, x.restore(0));
        Edges.due("restore(1)", true, x.restore(1));
        Edges.due("restore(2)", false, x.restore(2));
    }

    private static void count() {
        Edges.promise(44, "0 CHAIRS, 1 HEADS, 2 VISITS, 3 the hour, counted on, 4 the hour of the day, 5 the SUDS, 6 all that HEADS and squares have, "
            + "added, 7 STARCHED ones (bits), 8 bytes on the tape, 9 things that can be undone, 10 TOLD ones, 11 SLOTS that hold something, "
            + "12: 1 a MOTH in this hour, else 0, 13 HEADS who SAY anything (bits), 14 VISITS that are kept (bits), 15 CHAIRS whose squares are "
            + "empty (bits), 16 how often any sat so far, 17 THOUGHTS that are in any square (bits), 18 OIL of all HEADS, added.");
        HeadCloths x = Edges.of(FULL);
        int[] first = {4, 5, 10, 0, 0, 0, 300 + 100 + 10 + 36 + 148, 0, 0, 0, 0, 0, Model.lot(100, 12, 0) < 30 ? 1 : 0, 19, 1023, 15, 0, 0, 15};
        for (int what = 0; what <= 18; what++) {
            Edges.due(call("count", what) + ", full", first[what], x.count(what));
        }
        for (int slot = 0; slot < 3; slot++) {
            x.hold(slot);
            Edges.due("count(11)", slot + 1, x.count(11));
            x.hold(slot);
            Edges.due("count(11), held anew", slot + 1, x.count(11));
        }
        for (int chair = 0; chair < 4; chair++) {
            x.sit(4, chair);
            Edges.due("count(15)", 15 & -(2 << chair), x.count(15));
        }
        Edges.due("count(17): the last head has thoughts 0 and 3", 9, x.count(17));
        Edges.due("count(16)", 4, x.count(16));
        Edges.due("count(6): none is lost", 594, x.count(6));
        for (int chair = 0; chair < 4; chair++) {
            x.wash(chair);
        }
        Edges.due("count(5) and count(6)", 594, x.count(5) + x.count(6));
        x = Edges.of("");
        for (int what = 0; what <= 18; what++) {
            Edges.due(call("count", what) + ", nothing", 0, x.count(what));
        }
        x = Edges.of("chair a 0;chair b 0;chair c 0;chair d 0;head e 9 1 0 0 0;head f 9 0 1 0 0;head g 9 0 0 1 0;head h 9 0 0 0 1;head i 9 0 0 0 0;");
        Edges.due("count(18), all 9", 45, x.count(18));
        for (int t = 0; t < 4; t++) {
            x.sit(t, t);
            Edges.due("count(17), one of each", (2 << t) - 1, x.count(17));
            Edges.due("count(15), one in each", 15 & -(2 << t), x.count(15));
        }
    }

    private static void countOfOthers() {
        Edges.promise(44, "NONE for others.");
        for (String house : new String[] {FULL, SMALL, ""}) {
            HeadCloths x = Edges.of(house);
            for (int wrong : none(19)) {
                Edges.due(call("count", wrong), -1, x.count(wrong));
            }
        }
    }
}
