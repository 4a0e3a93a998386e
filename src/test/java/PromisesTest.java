/** Promises 1 and 6 to 44 on small houses whose answers were worked out by hand. */
public final class PromisesTest {
    private static final int MIN = Integer.MIN_VALUE;
    private static final int MAX = Integer.MAX_VALUE;
    private static final String HOUSE = "chair a 3;chair b 7;chair c 0;head x 2 50 20 0 9;head y 4 10 60 30 0;"
        + "visit x a 1;visit y b 1;visit x b 5;keeps=own/10;passes=cloth/2;washes=cloth-mesh;says 50;monday 2;seed 7;";

    private PromisesTest() {
    }

    public static void main(String[] args) {
        aNewObject();
        chairHeadVisit();
        tellsOfVariables();
        tellsOfLaws();
        sit();
        wash();
        starchChangeKeep();
        hours();
        moths();
        undo();
        sittings();
        alone();
        gainAndBestChair();
        most();
        when();
        meetAndWithout();
        pairs();
        fullestShareForemost();
        silent();
        lostThenClean();
        inHours();
        year();
        tellForgetWho();
        look();
        holdRestore();
        count();
        Checks.end("PromisesTest");
    }

    private static void due(String call, long want, long got) {
        Checks.due(call, want, got);
    }

    private static void due(String call, boolean want, boolean got) {
        Checks.due(call, want, got);
    }

    private static void squares(String call, HeadCloths x, int chair, int... amounts) {
        for (int t = 0; t < 4; t++) {
            due(call + ": chair(" + chair + ", " + t + ")", amounts[t], x.chair(chair, t));
        }
    }

    private static void owns(String call, HeadCloths x, int head, int... amounts) {
        for (int t = 0; t < 4; t++) {
            due(call + ": head(" + head + ", " + t + ")", amounts[t], x.head(head, t));
        }
    }

    private static void aNewObject() {
        due("NONE", -1, HeadCloths.NONE);
        HeadCloths x = new HeadCloths();
        for (int what = 0; what <= 18; what++) {
            due("new: count(" + what + ")", 0, x.count(what));
        }
        due("new: place()", -1, x.place());
        due("new: chair(0, 0)", -1, x.chair(0, 0));
        due("new: head(0, 0)", -1, x.head(0, 0));
        due("new: hours(72)", 72, x.hours(72));
        due("new: count(9)", 1, x.count(9));
        due("new: meet(1, 2, 72)", 0, x.meet(1, 2, 72));
        due("new: hold(2)", true, x.hold(2));
        due("new: restore(2)", true, x.restore(2));
        due("new: clean(0)", -2, x.clean(0));
    }

    private static void chairHeadVisit() {
        HeadCloths x = Checks.of(HOUSE);
        due("chair(0, 4)", 3, x.chair(0, 4));
        due("chair(1, 4)", 7, x.chair(1, 4));
        squares("at first", x, 1, 0, 0, 0, 0);
        due("chair(2, 5)", 0, x.chair(2, 5));
        due("chair(2, 6)", 0, x.chair(2, 6));
        x.sit(0, 0);
        x.sit(1, 0);
        x.starch(0);
        due("chair(0, 5)", 1, x.chair(0, 5));
        due("chair(0, 6)", 2, x.chair(0, 6));
        due("chair(0, 0): 5, then 2 out and 1 in", 4, x.chair(0, 0));
        owns("sat", x, 0, 45, 18, 0, 9);
        due("head(0, 4)", 2, x.head(0, 4));
        due("head(1, 4)", 4, x.head(1, 4));
        due("head(0, 5)", 0, x.head(0, 5));
        due("head(1, 5)", 2, x.head(1, 5));
        due("head(0, 6)", 1, x.head(0, 6));
        int[][] visits = {{0, 0, 1, 1}, {1, 1, 1, 1}, {0, 1, 5, 1}};
        for (int v = 0; v < 3; v++) {
            for (int what = 0; what < 4; what++) {
                due("visit(" + v + ", " + what + ")", visits[v][what], x.visit(v, what));
            }
        }
        x.keep(1, false);
        due("visit(1, 3)", 0, x.visit(1, 3));
        for (int wrong : new int[] {-1, 3, 4, 5, 10, MIN, MAX}) {
            due("chair(" + wrong + ", 0)", -1, x.chair(wrong, 0));
            due("head(" + wrong + ", 0)", -1, x.head(wrong, 0));
            due("visit(" + wrong + ", 0)", -1, x.visit(wrong, 0));
        }
        for (int wrong : new int[] {-1, 7, 8, MIN, MAX}) {
            due("chair(0, " + wrong + ")", -1, x.chair(0, wrong));
            due("head(0, " + wrong + ")", -1, x.head(0, wrong));
        }
        for (int wrong : new int[] {-1, 4, MIN, MAX}) {
            due("visit(0, " + wrong + ")", -1, x.visit(0, wrong));
        }
        due("head(2, 0)", -1, x.head(2, 0));
    }

    /** Each variable in each law: what it stands for is asked of the face. */
    private static void tellsOfVariables() {
        String house = "chair p 1;chair q 6;head m 2 90 80 70 60;head n 3 99 98 97 96;visit m q 0;keeps=50;";
        String[] laws = {"keeps", "passes", "washes", "fades"};
        for (int law = 0; law < 4; law++) {
            for (int which = 0; which < 9; which++) {
                String name = Model.VARS.get(which);
                HeadCloths x = Checks.of(house + laws[law] + "=" + name + (law == 0 ? "+20;" : ";"));
                x.sit(0, 1);
                x.sit(1, 1);
                x.hours(26);
                int chair = 1;
                int head = 1;
                int thought = 2;
                boolean washes = law == 2;
                boolean fades = law == 3;
                int cloth = fades ? 0 : x.chair(chair, thought);
                int own = washes ? 0 : x.head(head, thought);
                int all = 0;
                for (int t = 0; t < 4; t++) {
                    all += fades ? x.head(head, t) : x.chair(chair, t);
                }
                int[] values = {fades ? 0 : 6, washes ? 0 : 3, thought, cloth, own, 2,
                    fades ? 1 : 4, washes ? chair : head, all};
                int told = values[which] + (law == 0 ? 20 : 0);
                int most = law == 0 || fades ? own : cloth;
                due(laws[law] + " = " + name, Math.max(0, Math.min(told, most)), x.tells(chair, head, thought, law));
            }
        }
        HeadCloths x = Checks.of(HOUSE);
        due("tells(0, 0, 0, 0)", 5, x.tells(0, 0, 0, 0));
        due("tells(0, 0, 3, 0)", 0, x.tells(0, 0, 3, 0));
        x.sit(0, 0);
        due("tells(0, 1, 0, 1)", 2, x.tells(0, 1, 0, 1));
        x.starch(0);
        due("tells(0, 1, 0, 1), starched", 2, x.tells(0, 1, 0, 1));
        due("tells(0, 1, 0, 0), starched", 1, x.tells(0, 1, 0, 0));
        due("tells(0, 9, 0, 2)", 2, x.tells(0, 9, 0, 2));
        due("tells(0, 9, 1, 2): below 0", 0, x.tells(0, 9, 1, 2));
        due("tells(9, 0, 0, 3)", 0, x.tells(9, 0, 0, 3));
        int[][] wrong = {{3, 0, 0, 0}, {-1, 0, 0, 0}, {0, 2, 0, 0}, {0, -1, 0, 1}, {0, 0, 4, 0}, {0, 0, -1, 1}, {0, 0, 0, 4},
            {0, 0, 0, -1}, {3, 0, 0, 2}, {0, 2, 0, 3}, {0, 0, 4, 2}, {0, 0, 4, 3}, {MAX, MIN, MAX, MIN}};
        for (int[] w : wrong) {
            due("tells(" + w[0] + ", " + w[1] + ", " + w[2] + ", " + w[3] + ")", -1, x.tells(w[0], w[1], w[2], w[3]));
        }
    }

    private static void law(String law, int told) {
        HeadCloths x = Checks.of("chair c 5;head h 2 90 0 0 0;keeps=" + law + ";");
        due("keeps=" + law, told, x.tells(0, 0, 0, 0));
    }

    private static void tellsOfLaws() {
        law("10-3-2", 5);
        law("80/5/2", 8);
        law("2+3*4", 14);
        law("(2+3)*4", 20);
        law("20-6/2*3", 11);
        law("(0-7)/2+10", 7);
        law("7/(0-2)+10", 7);
        law("0-1", 0);
        law("91", 90);
        law("90", 90);
        law("own/(own-90)", 0);
        law("50+0*(1/0)", 0);
        law("if 1/0<5then 3else 4", 0);
        law("if 5<1/0then 3else 4", 0);
        law("if 1<2then 1/0else 4", 0);
        law("if 1<2then 3else 1/0", 3);
        law("if 2<1then 1/0else 4", 4);
        law("if 2<2then 3else 4", 4);
        law("if 2<1then 3else if 1<2then 7else 9", 7);
        law("if 1<2then 3else if 1/0<2then 7else 9", 3);
        law("if 2<1then 3else if 2<1then 7else 9", 9);
        law("if 2<1then 1else if 2<1then 2else if 2<1then 3else if 1<2then 4else 5", 4);
        law("if mesh<oil then 1else mesh", 5);
        // 9999 * 9999 * 9999 is -1027349969 in 32 bits
        law("20+9999*9999*9999/9999/9999", 10);
        // the least int there is: by -1 it is itself
        law("if(0-8*8*8*8*8*8*8*8*8*8*2)/(0-1)<0then 33else 44", 33);
        law("if 9999*9999*22<0then 33else 44", 33);
        law("((((((1+2)*2)+1)*2)+1)*2)", 30);
        law("1;keeps=9", 9);
        HeadCloths x = Checks.of("chair c 5;head h 2 90 90 0 0;");
        due("keeps, not told", 1, x.tells(0, 0, 0, 0));
        due("keeps, not told, of nothing", 0, x.tells(0, 0, 2, 0));
        due("fades, not told", 0, x.tells(0, 0, 0, 3));
        x.sit(0, 0);
        x.sit(0, 0);
        due("passes, not told", 1, x.tells(0, 0, 0, 1));
        x = Checks.of("chair c 5;head h 2 90 90 0 0;keeps=5;");
        x.sit(0, 0);
        due("passes, not told, of more", 1, x.tells(0, 0, 0, 1));
        x = Checks.of("chair c 5;head h 2 90 90 0 0;");
        x.sit(0, 0);
        due("washes, not told", 1, x.tells(0, 0, 0, 2));
        due("one goes out, one in", 89, x.head(0, 0));
    }

    private static void sit() {
        HeadCloths x = Checks.of("chair c 5;chair d 5;head h 2 40 8 0 0;keeps=own/2;passes=cloth;");
        due("sit(0, 0)", true, x.sit(0, 0));
        owns("once", x, 0, 20, 4, 0, 0);
        squares("once", x, 0, 20, 4, 0, 0);
        due("sit(0, 0)", true, x.sit(0, 0));
        owns("twice", x, 0, 30, 6, 0, 0);
        squares("twice", x, 0, 10, 2, 0, 0);
        due("starch(0)", true, x.starch(0));
        due("sit(0, 0)", true, x.sit(0, 0));
        owns("starched", x, 0, 30, 6, 0, 0);
        squares("starched", x, 0, 10, 2, 0, 0);
        due("chair(0, 6)", 3, x.chair(0, 6));
        due("head(0, 6)", 3, x.head(0, 6));
        due("chair(1, 6)", 0, x.chair(1, 6));
        due("count(9)", 4, x.count(9));
        due("sit(1, 0)", false, x.sit(1, 0));
        due("sit(0, 2)", false, x.sit(0, 2));
        due("sit(-1, 0)", false, x.sit(-1, 0));
        due("sit(0, -1)", false, x.sit(0, -1));
        due("sit(MAX, MIN)", false, x.sit(MAX, MIN));
        due("count(9)", 4, x.count(9));
        due("count(16)", 3, x.count(16));
        x = Checks.of("chair c 5;head h 2 40 8 9 9;keeps=all+1;");
        x.sit(0, 0);
        squares("all by how it was", x, 0, 1, 1, 1, 1);
        x = Checks.of("chair c 5;head h 2 40 8 9 9;keeps=sat+1;passes=0;");
        x.sit(0, 0);
        squares("sat by how it was", x, 0, 1, 1, 1, 1);
        x.sit(0, 0);
        squares("sat once", x, 0, 3, 3, 3, 3);
    }

    private static void wash() {
        HeadCloths x = Checks.of("chair c 5;head h 2 40 8 9 9;keeps=8;washes=all/8;");
        due("wash(0) of an empty one", 0, x.wash(0));
        due("count(9)", 1, x.count(9));
        x.sit(0, 0);
        x.starch(0);
        due("wash(0)", 16, x.wash(0));
        squares("all by how it was", x, 0, 4, 4, 4, 4);
        due("chair(0, 5)", 0, x.chair(0, 5));
        due("chair(0, 6)", 1, x.chair(0, 6));
        due("count(5)", 16, x.count(5));
        due("wash(0): 16 / 8 of each", 8, x.wash(0));
        due("count(5)", 24, x.count(5));
        due("count(9)", 5, x.count(9));
        for (int wrong : new int[] {-1, 1, 4, MIN, MAX}) {
            due("wash(" + wrong + ")", -1, x.wash(wrong));
        }
        due("count(9)", 5, x.count(9));
    }

    private static void starchChangeKeep() {
        HeadCloths x = Checks.of(HOUSE);
        x.sit(0, 0);
        x.sit(1, 1);
        due("starch(0)", true, x.starch(0));
        due("starch(0)", false, x.starch(0));
        due("starch(3)", false, x.starch(3));
        due("starch(-1)", false, x.starch(-1));
        due("count(7)", 1, x.count(7));
        due("change(0, 0)", false, x.change(0, 0));
        due("change(0, 3)", false, x.change(0, 3));
        due("change(3, 0)", false, x.change(3, 0));
        due("change(-1, 0)", false, x.change(-1, 0));
        due("change(0, -1)", false, x.change(0, -1));
        due("count(9)", 3, x.count(9));
        due("change(0, 1)", true, x.change(0, 1));
        squares("changed", x, 0, 1, 6, 3, 0);
        squares("changed", x, 1, 5, 2, 0, 0);
        due("count(7)", 2, x.count(7));
        due("chair(0, 4) stays", 3, x.chair(0, 4));
        due("chair(0, 6) stays", 1, x.chair(0, 6));
        x.sit(1, 1);
        due("chair(1, 6) stays", 2, x.chair(1, 6));
        squares("starched, changed", x, 1, 5, 2, 0, 0);
        due("change(2, 1)", true, x.change(2, 1));
        due("count(7)", 4, x.count(7));
        due("keep(0, true)", false, x.keep(0, true));
        due("keep(0, false)", true, x.keep(0, false));
        due("keep(0, false)", false, x.keep(0, false));
        due("count(14)", 6, x.count(14));
        due("keep(0, true)", true, x.keep(0, true));
        due("keep(3, false)", false, x.keep(3, false));
        due("keep(-1, false)", false, x.keep(-1, false));
        due("keep(MIN, false)", false, x.keep(MIN, false));
        due("count(14)", 7, x.count(14));
        due("count(9)", 8, x.count(9));
    }

    private static void hours() {
        HeadCloths x = Checks.of(HOUSE);
        due("hours(0)", 0, x.hours(0));
        due("count(9)", 0, x.count(9));
        due("hours(-1)", -1, x.hours(-1));
        due("hours(73)", -1, x.hours(73));
        due("hours(MAX)", -1, x.hours(MAX));
        due("hours(1)", 1, x.hours(1));
        owns("no visit yet", x, 0, 50, 20, 0, 9);
        due("hours(1)", 2, x.hours(1));
        owns("visit 0", x, 0, 45, 18, 0, 9);
        owns("visit 1", x, 1, 9, 54, 27, 0);
        due("hours(4)", 6, x.hours(4));
        // x in b: 45 / 10 in, 1 / 2 out; 18 / 10 in, 6 / 2 out; 0 in, 3 / 2 out
        owns("visit 2", x, 0, 41, 20, 1, 9);
        squares("visit 2", x, 1, 5, 4, 2, 0);
        due("count(9)", 3, x.count(9));
        x.keep(0, false);
        x.keep(1, false);
        x.keep(2, false);
        due("hours(18)", 24, x.hours(18));
        squares("monday 2: not the first day", x, 0, 5, 2, 0, 0);
        x.starch(0);
        due("hours(23)", 47, x.hours(23));
        squares("not yet", x, 0, 5, 2, 0, 0);
        due("hours(1)", 48, x.hours(1));
        squares("monday", x, 0, 3, 2, 0, 0);
        squares("monday", x, 1, 5, 4, 2, 0);
        due("not starched", 0, x.count(7));
        due("count(5)", 2, x.count(5));
        due("hours(72)", 120, x.hours(72));
        due("count(4)", 0, x.count(4));
        x = Checks.of("chair c 0;head g 0 20 1 0 0;keeps=own;passes=0;monday 3;fades=if hour<1then 1else 0;");
        x.hours(1);
        owns("one fades too", x, 0, 19, 0, 0, 0);
        x.sit(0, 0);
        x.hours(70);
        due("monday 3: hour 71 is not gone", 19, x.chair(0, 0));
        x.hours(1);
        due("monday 3", 0, x.chair(0, 0));
        x = Checks.of("chair c 0;head g 0 20 0 0 0;head h 0 0 0 0 0;visit h c 0;visit g c 0;visit h c 0;keeps=own;passes=cloth;");
        x.hours(1);
        due("visits in order", 20, x.head(1, 0));
        due("count(16)", 3, x.count(16));
        x = Checks.of("chair c 0;head g 3 20 9 0 7;visit g c 0;keeps=2;fades=all/10+hour;");
        x.hours(1);
        // behind the visit 18, 7, 0, 5: 30 / 10 of each
        owns("fades behind visits", x, 0, 15, 4, 0, 2);
        due("count(5)", 9, x.count(5));
        x.hours(1);
        owns("fades by hour 1: 21 / 10 + 1", x, 0, 12, 1, 0, 0);
        x = Checks.of("chair c 0;head g 3 20 9 0 7;keeps=2;washes=hour;monday 1;");
        x.sit(0, 0);
        x.hours(24);
        due("washed at hour 23", 0, x.chair(0, 0));
        x = Checks.of("chair c 0;head g 3 20 9 0 7;keeps=2;washes=hour/23;monday 1;fades=sat;");
        x.sit(0, 0);
        x.hours(3);
        owns("fades by how often it sat", x, 0, 15, 4, 0, 2);
        x.hours(21);
        squares("washes by the hour of the day", x, 0, 1, 1, 0, 1);
    }

    private static void moths() {
        // LOT 100 of seed 0 and 0, 8, 16, 24, 32, 40: 34 60 1 15 48 90; LOT 4 of each and 1: 3 1 0 1 1 3
        String house = "chair a 0;chair b 0;chair c 0;chair d 0;head h 0 99 99 99 99;keeps=2;passes=0;";
        HeadCloths x = Checks.of(house + "moth 50;");
        int bits = 0;
        for (int hour = 0; hour < 24; hour++) {
            bits |= x.count(12) << hour;
            x.hours(1);
        }
        due("moths of seed 0", 2660381, bits);
        x = Checks.of(house + "moth 34;");
        due("count(12): 34 is not less than 34", 0, x.count(12));
        x = Checks.of(house + "moth 35;");
        due("count(12): 34 is less than 35", 1, x.count(12));
        for (int chair = 0; chair < 4; chair++) {
            x.sit(0, chair);
        }
        x.starch(3);
        due("count(15)", 0, x.count(15));
        x.hours(1);
        due("the moth is in 3", 8, x.count(15));
        due("count(5)", 8, x.count(5));
        due("starched all the same", 8, x.count(7));
        due("count(12)", 0, x.count(12));
        x.hours(1);
        due("none in hour 1", 8, x.count(15));
        x.hours(1);
        due("hour 2: in 0", 9, x.count(15));
        x.hours(1);
        due("hour 3: in 1", 11, x.count(15));
        x.hours(3);
        due("count(15)", 11, x.count(15));
        x = Checks.of(house + "moth 50;seed 9999;");
        bits = 0;
        for (int hour = 0; hour < 24; hour++) {
            bits |= x.count(12) << hour;
            x.hours(1);
        }
        due("moths of seed 9999", 13739764, bits);
        x = Checks.of(house + "visit h a 2;moth 35;");
        x.hours(3);
        due("behind visits", 15, x.count(15));
        due("count(5)", 8, x.count(5));
        x = Checks.of(house + "moth 100;seed 7;");
        for (int chair : new int[] {2, 0, 1, 3, 0, 3}) {
            for (int c = 0; c < 4; c++) {
                x.sit(0, c);
            }
            due("chairIn(" + chair + ", 0, 1)", 0, x.chairIn(chair, 0, 1));
            x.hours(1);
            due("seed 7: which chair", 1 << chair, x.count(15));
        }
        // of seed 119 the LOT 100 in hour 0 is 0
        x = Checks.of(house + "moth 1;seed 119;");
        due("moth 1", 1, x.count(12));
        x = Checks.of(house + "moth 0;seed 119;");
        due("moth 0", 0, x.count(12));
        x = Checks.of("head h 0 99 0 0 0;moth 100;fades=1;");
        due("no chairs: a moth", 1, x.count(12));
        due("no chairs: hours(5)", 5, x.hours(5));
        due("no chairs: count(5)", 5, x.count(5));
    }

    private static void undo() {
        HeadCloths x = Checks.of(HOUSE);
        due("undo()", false, x.undo());
        x.sit(0, 0);
        x.starch(0);
        x.wash(0);
        x.change(0, 1);
        x.keep(2, false);
        x.hours(5);
        due("count(9)", 6, x.count(9));
        due("undo() hours", true, x.undo());
        due("count(3)", 0, x.count(3));
        due("count(16)", 1, x.count(16));
        due("undo() keep", true, x.undo());
        due("count(14)", 7, x.count(14));
        due("undo() change", true, x.undo());
        squares("undone", x, 0, 3, 2, 0, 0);
        due("undo() wash", true, x.undo());
        squares("undone", x, 0, 5, 2, 0, 0);
        due("count(5)", 0, x.count(5));
        due("count(7)", 1, x.count(7));
        due("undo() starch", true, x.undo());
        due("count(7)", 0, x.count(7));
        due("undo() sit", true, x.undo());
        squares("undone", x, 0, 0, 0, 0, 0);
        owns("undone", x, 0, 50, 20, 0, 9);
        due("head(0, 6)", 0, x.head(0, 6));
        due("chair(0, 6)", 0, x.chair(0, 6));
        due("undo()", false, x.undo());
        x.sit(0, 2);
        x.hours(3);
        due("undo() hours", true, x.undo());
        squares("the third square", x, 2, 5, 2, 0, 0);
        due("undo() sit", true, x.undo());
        squares("the third square", x, 2, 0, 0, 0, 0);
        for (int i = 1; i <= 43; i++) {
            x.sit(1, 2);
            due("count(9)", Math.min(i, 40), x.count(9));
        }
        for (int i = 42; i >= 3; i--) {
            due("undo()", true, x.undo());
            due("chair(2, 6)", i, x.chair(2, 6));
        }
        due("undo()", false, x.undo());
        due("chair(2, 6)", 3, x.chair(2, 6));
        due("count(9)", 0, x.count(9));
    }

    private static void sittingsAre(HeadCloths x, int head, int thought, int size, int... path) {
        due("sittings(" + head + ", " + thought + ", -1)", size, x.sittings(head, thought, -1));
        for (int i = 0; i < 3; i++) {
            int want = size == -2 ? -2 : i < path.length ? path[i] : -1;
            due("sittings(" + head + ", " + thought + ", " + i + ")", want, x.sittings(head, thought, i));
        }
    }

    private static void sittings() {
        String house = "chair c 0;head a 0 30 0 0 0;head b 0 30 0 0 0;head e 0 30 0 0 0;"
            + "keeps=(which-1)*(which-1)*own;passes=if which<1then 0else if 1<which then 0else cloth;";
        sittingsAre(Checks.of(house + "says 30;"), 1, 0, 0);
        sittingsAre(Checks.of(house + "says 31;"), 1, 0, 2, 0, 10);
        sittingsAre(Checks.of(house + "says 60;"), 1, 0, 2, 0, 10);
        sittingsAre(Checks.of(house + "says 61;"), 1, 0, 3, 0, 20, 10);
        sittingsAre(Checks.of(house + "says 90;"), 1, 0, 3, 0, 20, 10);
        sittingsAre(Checks.of(house + "says 91;"), 1, 0, -2);
        sittingsAre(Checks.of(house + "says 31;"), 0, 0, -2);
        HeadCloths x = Checks.of(house + "says 61;");
        x.sit(2, 0);
        sittingsAre(x, 1, 0, 2, 0, 10);
        x.sit(0, 0);
        sittingsAre(x, 1, 0, 1, 10);
        due("nothing happens", 2, x.count(16));
        x.starch(0);
        sittingsAre(x, 1, 0, -2);
        // by the second chair alone; the lowest of alike ones
        x = Checks.of("chair c 0;chair d 5;chair e 5;head a 0 30 0 0 0;head b 0 30 0 0 0;says 40;keeps=mesh*own*(1-which);passes=cloth;");
        sittingsAre(x, 1, 0, 2, 1, 11);
        int[][] wrong = {{2, 0, -1}, {-1, 0, -1}, {0, 4, -1}, {0, -1, -1}, {0, 0, -2}, {0, 0, 3}, {1, 0, 3}, {MIN, MAX, MIN}};
        for (int[] w : wrong) {
            due("sittings(" + w[0] + ", " + w[1] + ", " + w[2] + ")", -1, x.sittings(w[0], w[1], w[2]));
        }
        x = Checks.of("head a 0 30 0 0 0;says 31;");
        sittingsAre(x, 0, 0, -2);
    }

    private static void alone() {
        String house = "chair c 0;chair d 0;head a 0 99 0 0 0;head b 0 0 5 0 0;keeps=if which<1then own else 0;passes=which;";
        HeadCloths x = Checks.of(house + "says 60;");
        due("alone(1, 0, 0): nothing is there", -2, x.alone(1, 0, 0));
        x.sit(0, 0);
        due("alone(1, 0, 0)", 60, x.alone(1, 0, 0));
        due("alone(1, 1, 0)", -2, x.alone(1, 1, 0));
        due("nothing happens", 1, x.count(16));
        x = Checks.of(house + "says 61;");
        x.sit(0, 0);
        due("alone(1, 0, 0)", -2, x.alone(1, 0, 0));
        x = Checks.of(house + "says 5;");
        due("alone(1, 0, 1)", 0, x.alone(1, 0, 1));
        x.sit(0, 0);
        due("alone(1, 0, 0)", 5, x.alone(1, 0, 0));
        x.starch(0);
        due("alone(1, 0, 0), starched", -2, x.alone(1, 0, 0));
        int[][] wrong = {{2, 0, 0}, {-1, 0, 0}, {0, 2, 0}, {0, -1, 0}, {0, 0, 4}, {0, 0, -1}, {MAX, MAX, MIN}};
        for (int[] w : wrong) {
            due("alone(" + w[0] + ", " + w[1] + ", " + w[2] + ")", -1, x.alone(w[0], w[1], w[2]));
            due("gain(" + w[0] + ", " + w[1] + ", " + w[2] + ")", -100000, x.gain(w[0], w[1], w[2]));
        }
    }

    private static void gainAndBestChair() {
        HeadCloths x = Checks.of("chair a 9;chair b 2;chair c 2;head g 0 50 50 0 0;head h 0 0 10 0 0;keeps=mesh;passes=cloth;");
        due("gain(0, 0, 0)", -9, x.gain(0, 0, 0));
        due("gain(0, 1, 0)", -2, x.gain(0, 1, 0));
        due("gain(0, 1, 2)", 0, x.gain(0, 1, 2));
        due("bestChair(0, 0): the first of alike", 1, x.bestChair(0, 0));
        due("bestChair(0, 2): all alike", 0, x.bestChair(0, 2));
        x.sit(0, 0);
        x.sit(0, 1);
        due("gain(1, 0, 0)", 9, x.gain(1, 0, 0));
        due("gain(1, 0, 1)", 0, x.gain(1, 0, 1));
        due("bestChair(1, 0)", 0, x.bestChair(1, 0));
        x.starch(0);
        due("gain(1, 0, 0), starched", 0, x.gain(1, 0, 0));
        due("bestChair(1, 0), starched", 1, x.bestChair(1, 0));
        int[][] wrong = {{2, 0}, {-1, 0}, {0, 4}, {0, -1}, {MIN, MAX}};
        for (int[] w : wrong) {
            due("bestChair(" + w[0] + ", " + w[1] + ")", -1, x.bestChair(w[0], w[1]));
        }
        x = Checks.of("head g 0 50 50 0 0;");
        due("bestChair(0, 0): no chairs", -2, x.bestChair(0, 0));
        due("bestChair(1, 0)", -1, x.bestChair(1, 0));
    }

    private static void most() {
        HeadCloths x = Checks.of("chair a 9;chair b 2;head g 0 5 3 0 0;head h 0 7 3 0 1;head i 0 7 9 0 1;keeps=mesh;passes=0;");
        int[] heads = {1, 2, 0, 1};
        for (int t = 0; t < 4; t++) {
            due("most(" + t + ", 0)", heads[t], x.most(t, 0));
            due("most(" + t + ", 1)", 0, x.most(t, 1));
        }
        x.sit(0, 1);
        due("most(0, 1)", 1, x.most(0, 1));
        due("most(3, 1)", 0, x.most(3, 1));
        due("most(4, 0)", -1, x.most(4, 0));
        due("most(-1, 1)", -1, x.most(-1, 1));
        due("most(0, 2)", -1, x.most(0, 2));
        due("most(0, -1)", -1, x.most(0, -1));
        x = Checks.of("chair a 1;");
        due("most(0, 0): no heads", -2, x.most(0, 0));
        due("most(0, 1)", 0, x.most(0, 1));
        due("most(0, 2)", -1, x.most(0, 2));
        x = Checks.of("head a 1 2 3 4 5;");
        due("most(0, 1): no chairs", -2, x.most(0, 1));
    }

    /** A visit a day brings one: the ninth is at 192 and what the hour of the visit is. */
    private static void when() {
        String house = "chair c 0;head g 0 90 0 0 0;head h 0 10 0 0 0;keeps=if which<1then own else 0;passes=which;moth 100;";
        HeadCloths x = Checks.of(house + "visit h c 7;says 19;");
        due("when(1, 0): nothing is there", -2, x.when(1, 0));
        x.sit(0, 0);
        due("when(1, 0)", 200, x.when(1, 0));
        due("when(0, 0)", -2, x.when(0, 0));
        x.hours(0);
        due("nothing happens", 0, x.count(3));
        x = Checks.of(house + "visit h c 8;says 19;");
        x.sit(0, 0);
        due("when(1, 0)", -2, x.when(1, 0));
        x = Checks.of(house + "visit h c 8;says 12;");
        x.sit(0, 0);
        due("when(1, 0)", 33, x.when(1, 0));
        x.keep(0, false);
        due("when(1, 0), given up", -2, x.when(1, 0));
        x = Checks.of(house + "says 10;");
        due("when(1, 0), now", 0, x.when(1, 0));
        int[][] wrong = {{2, 0}, {-1, 0}, {0, 4}, {0, -1}, {MIN, MAX}};
        for (int[] w : wrong) {
            due("when(" + w[0] + ", " + w[1] + ")", -1, x.when(w[0], w[1]));
        }
    }

    private static void meetAndWithout() {
        HeadCloths x = Checks.of("chair c 0;head g 0 50 50 0 0;head h 0 50 49 60 0;head i 0 0 60 60 60;fades=which;visit g c 1;moth 100;"
            + "keeps=1;passes=0;");
        due("meet(0, 1, 0)", 1, x.meet(0, 1, 0));
        due("meet(1, 0, 0)", 1, x.meet(1, 0, 0));
        due("meet(0, 2, 0)", 2, x.meet(0, 2, 0));
        due("meet(2, 1, 0)", 4, x.meet(2, 1, 0));
        due("meet(0, 1, 1)", 1, x.meet(0, 1, 1));
        due("meet(0, 1, 2)", 0, x.meet(0, 1, 2));
        due("meet(1, 3, 5)", 4, x.meet(1, 3, 5));
        due("meet(1, 3, 6)", 0, x.meet(1, 3, 6));
        due("meet(1, 3, 72)", 0, x.meet(1, 3, 72));
        int[][] wrong = {{0, 0, 1}, {4, 0, 1}, {0, 4, 1}, {-1, 0, 1}, {0, -1, 1}, {0, 1, -1}, {0, 1, 73}, {MAX, MIN, MAX}};
        for (int[] w : wrong) {
            due("meet(" + w[0] + ", " + w[1] + ", " + w[2] + ")", -1, x.meet(w[0], w[1], w[2]));
        }
        x = Checks.of("chair c 0;head g 0 50 50 0 0;head h 0 0 0 0 0;visit g c 1;visit h c 2;visit g c 4;moth 100;"
            + "keeps=if which<1then 5else 0;passes=if which<1then 0else cloth;");
        due("without(0, 0, 1)", 50, x.without(0, 0, 1));
        due("without(0, 0, 4)", 50, x.without(0, 0, 4));
        due("without(0, 0, 5)", 45, x.without(0, 0, 5));
        due("without(2, 0, 5)", 45, x.without(2, 0, 5));
        due("without(1, 0, 5)", 0, x.without(1, 0, 5));
        due("without(2, 0, 72)", 35, x.without(2, 0, 72));
        x.keep(0, false);
        due("without(2, 0, 5)", 50, x.without(2, 0, 5));
        due("without(0, 0, 5), given up", 45, x.without(0, 0, 5));
        due("visit(2, 3)", 1, x.visit(2, 3));
        int[][] bad = {{3, 0, 1}, {-1, 0, 1}, {0, 4, 1}, {0, -1, 1}, {0, 0, 0}, {0, 0, -1}, {0, 0, 73}, {MIN, 0, MAX}};
        for (int[] w : bad) {
            due("without(" + w[0] + ", " + w[1] + ", " + w[2] + ")", -1, x.without(w[0], w[1], w[2]));
        }
        // a moth would eat what the second head finds there in hour 2
        x = Checks.of("chair c 0;head g 0 50 0 0 0;head h 0 0 0 0 0;visit g c 0;visit h c 1;visit h c 5;moth 100;says 50;"
            + "keeps=if which<1then own else 0;passes=cloth*which;");
        due("without(2, 0, 2): no moth", 50, x.without(2, 0, 2));
        due("headIn(1, 0, 2): a moth", 0, x.headIn(1, 0, 2));
        due("when(1, 0): no moth", 2, x.when(1, 0));
        due("then(2, 0): a moth", 0, x.then(2, 0));
        due("saysIn(1, 2): a moth", 0, x.saysIn(1, 2));
        due("lost(2): no moth", 0, x.lost(2));
        due("then(2, 4): a moth", 50, x.then(2, 4));
        x = Checks.of("chair c 0;head g 0 50 50 0 0;head h 0 0 0 0 0;visit g c 0;visit h c 1;moth 100;says 50;"
            + "keeps=if which<1then own else 0;passes=cloth*which;");
        due("meet(0, 1, 2): no moth", 2, x.meet(0, 1, 2));
        due("then(2, 4): a moth", 100, x.then(2, 4));
    }

    private static void pairs() {
        HeadCloths x = Checks.of("chair a 1;chair b 2;chair c 3;head g 0 50 50 0 0;head h 0 48 53 0 0;head i 0 48 50 3 0;keeps=mesh;passes=0;");
        due("agree(0): the first of alike", 1, x.agree(0));
        due("agree(1)", 5, x.agree(1));
        due("alike(0)", 1, x.alike(0));
        due("alike(1)", 0, x.alike(1));
        x.sit(0, 0);
        x.sit(2, 1);
        // a: 1 1 0 0, b: 2 2 2 0, c: empty
        due("alike(0)", 2, x.alike(0));
        due("alike(1)", 2, x.alike(1));
        x.sit(0, 2);
        // c: 3 3 0 0; g: 46 46 0 0; h as it was, i: 46 48 1 0
        due("alike(0)", 1, x.alike(0));
        due("alike(1)", 4, x.alike(1));
        due("agree(0)", 2, x.agree(0));
        due("agree(1)", 3, x.agree(1));
        x.sit(1, 1);
        // b: 4 4 2 0, h: 46 51 0 0
        due("alike(0)", 2, x.alike(0));
        due("alike(1)", 4, x.alike(1));
        x.sit(0, 0);
        x.sit(0, 0);
        x.sit(0, 0);
        // a: 4 4 0 0
        due("alike(0): the first of alike", 1, x.alike(0));
        due("alike(1)", 2, x.alike(1));
        x.sit(1, 1);
        x.sit(1, 1);
        x.sit(1, 2);
        x.sit(1, 2);
        // b: 8 8 2 0, c: 9 9 0 0; g: 43 43 0 0, h: 36 41 0 0
        due("alike(0)", 12, x.alike(0));
        due("alike(1)", 4, x.alike(1));
        for (int i = 0; i < 6; i++) {
            x.sit(0, 2);
        }
        // g: 25 25 0 0
        due("agree(0)", 12, x.agree(0));
        due("agree(1)", 18, x.agree(1));
        for (int wrong : new int[] {-1, 2, MIN, MAX}) {
            due("alike(" + wrong + ")", -1, x.alike(wrong));
            due("agree(" + wrong + ")", -1, x.agree(wrong));
        }
        x = Checks.of("chair a 1;head h 0 1 2 3 4;");
        due("alike(0): one", -2, x.alike(0));
        due("alike(1): one", -2, x.alike(1));
        due("agree(0): one", -2, x.agree(0));
        due("agree(1): one", -2, x.agree(1));
        due("alike(2): one", -1, x.alike(2));
        due("agree(-1): one", -1, x.agree(-1));
    }

    private static void fullestShareForemost() {
        HeadCloths x = Checks.of("chair c 1;head g 0 1 2 3 4;head h 0 10 0 5 0;head i 0 0 15 0 0;keeps=own;passes=0;");
        due("fullest(0): the first of alike", 1, x.fullest(0));
        due("fullest(1)", 15, x.fullest(1));
        due("fullest(2)", -1, x.fullest(2));
        due("fullest(-1)", -1, x.fullest(-1));
        due("foremost(0)", 3, x.foremost(0));
        due("foremost(1)", 0, x.foremost(1));
        due("foremost(2)", 1, x.foremost(2));
        due("foremost(3)", -1, x.foremost(3));
        due("foremost(-1)", -1, x.foremost(-1));
        due("share(0, 0): empty", 0, x.share(0, 0));
        x.sit(0, 0);
        due("foremost(0): alike", 0, x.foremost(0));
        x.sit(1, 0);
        // 11 2 8 4 of 25
        due("share(0, 0)", 440, x.share(0, 0));
        due("share(0, 1)", 80, x.share(0, 1));
        x.sit(2, 0);
        // 11 17 8 4 of 40
        due("share(0, 1)", 425, x.share(0, 1));
        due("share(0, 2)", 200, x.share(0, 2));
        due("share(1, 0)", -1, x.share(1, 0));
        due("share(-1, 0)", -1, x.share(-1, 0));
        due("share(0, 4)", -1, x.share(0, 4));
        due("share(0, -1)", -1, x.share(0, -1));
        due("fullest(0): none has any", 0, x.fullest(0));
        due("fullest(1): none has any", 0, x.fullest(1));
        x = Checks.of("chair c 1;head g 0 1 1 1 0;keeps=own;");
        x.sit(0, 0);
        due("share(0, 0), rounded down", 333, x.share(0, 0));
        x = Checks.of("chair c 1;head g 0 0 0 1 0;");
        x.sit(0, 0);
        due("share(0, 2), all there is", 1000, x.share(0, 2));
        x = Checks.of("chair c 1;");
        due("fullest(0): no heads", -2, x.fullest(0));
        due("fullest(1): no heads", -2, x.fullest(1));
        due("fullest(2): no heads", -1, x.fullest(2));
    }

    private static void silent() {
        String house = "fades=if hour<7then 0else if hour<8then 1else 0;says 50;moth 100;";
        HeadCloths x = Checks.of("head h 0 58 52 49 50;head i 0 0 50 0 0;" + house);
        due("silent(0)", 200, x.silent(0));
        due("silent(1)", 8 + 48, x.silent(1));
        due("silent(2)", 0, x.silent(2));
        due("silent(3)", 8, x.silent(3));
        due("silent(4)", -1, x.silent(4));
        due("silent(-1)", -1, x.silent(-1));
        due("nothing happens", 0, x.count(3));
        x = Checks.of("head h 0 59 52 49 50;" + house);
        due("silent(0)", -2, x.silent(0));
        // each day one comes from the square and one fades, until a moth was there
        x = Checks.of("chair c 0;head g 0 90 0 0 0;head h 0 50 0 0 0;visit h c 0;keeps=if which<1then own else 0;passes=which;"
            + "fades=if hour<1then which else 0;moth 100;says 50;");
        x.sit(0, 0);
        due("silent(0): no moth", -2, x.silent(0));
        x.hours(24);
        due("silent(0): behind a moth", 1, x.silent(0));
    }

    private static void lostThenClean() {
        HeadCloths x = Checks.of("chair a 1;chair b 3;head h 0 90 40 0 0;visit h b 4;keeps=mesh*2;passes=0;washes=cloth-mesh;fades=1;"
            + "monday 1;moth 100;says 30;");
        due("clean(0): empty", 0, x.clean(0));
        due("clean(1): empty", 0, x.clean(1));
        due("lost(0)", 0, x.lost(0));
        due("lost(3)", 6, x.lost(3));
        // 24 hours: 48 faded, 6 - 3 of two in b
        due("lost(24)", 54, x.lost(24));
        due("then(24, 4): all 12 in b went by moths", 60, x.then(24, 4));
        due("then(10, 1)", 0, x.then(10, 1));
        due("then(4, 1)", 1, x.then(4, 1));
        due("then(0, 0)", 1, x.then(0, 0));
        due("then(72, 2)", 0, x.then(72, 2));
        x.sit(0, 0);
        x.sit(0, 1);
        due("clean(0)", 1, x.clean(0));
        due("clean(1)", 6, x.clean(1));
        due("clean(1)", 6, x.clean(1));
        due("clean(2)", -1, x.clean(2));
        due("clean(-1)", -1, x.clean(-1));
        due("wash(1)", 6, x.wash(1));
        due("clean(0)", 0, x.clean(0));
        due("lost(2)", 4, x.lost(2));
        due("then(0, 4)", 6, x.then(0, 4));
        for (int wrong : new int[] {-1, 73, MIN, MAX}) {
            due("lost(" + wrong + ")", -1, x.lost(wrong));
            due("then(" + wrong + ", 0)", -1, x.then(wrong, 0));
        }
        due("then(0, 5)", -1, x.then(0, 5));
        due("then(0, -1)", -1, x.then(0, -1));
        x = Checks.of("head h 0 90 40 0 0;");
        due("clean(0): no chairs", -2, x.clean(0));
        due("clean(1): no chairs", -2, x.clean(1));
        due("clean(2): no chairs", -1, x.clean(2));
    }

    private static void inHours() {
        HeadCloths x = Checks.of(HOUSE);
        due("headIn(0, 0, 0)", 50, x.headIn(0, 0, 0));
        due("headIn(0, 0, 2)", 45, x.headIn(0, 0, 2));
        due("headIn(0, 1, 6)", 20, x.headIn(0, 1, 6));
        due("chairIn(1, 0, 6)", 5, x.chairIn(1, 0, 6));
        due("chairIn(1, 0, 2)", 1, x.chairIn(1, 0, 2));
        due("saysIn(0, 0)", 1, x.saysIn(0, 0));
        due("saysIn(0, 2)", 0, x.saysIn(0, 2));
        due("saysIn(1, 72)", 0, x.saysIn(1, 72));
        due("saysIn(1, 2)", 2, x.saysIn(1, 2));
        due("nothing happens", 0, x.count(16) + x.count(3));
        int[][] wrong = {{3, 0, 1}, {-1, 0, 1}, {0, 4, 1}, {0, -1, 1}, {0, 0, -1}, {0, 0, 73}, {MIN, 0, MAX}};
        for (int[] w : wrong) {
            due("headIn(" + w[0] + ", " + w[1] + ", " + w[2] + ")", -1, x.headIn(w[0], w[1], w[2]));
            due("chairIn(" + w[0] + ", " + w[1] + ", " + w[2] + ")", -1, x.chairIn(w[0], w[1], w[2]));
        }
        due("headIn(2, 0, 1)", -1, x.headIn(2, 0, 1));
        due("chairIn(2, 0, 1)", 0, x.chairIn(2, 0, 1));
        due("saysIn(2, 1)", -1, x.saysIn(2, 1));
        due("saysIn(-1, 1)", -1, x.saysIn(-1, 1));
        due("saysIn(0, -1)", -1, x.saysIn(0, -1));
        due("saysIn(0, 73)", -1, x.saysIn(0, 73));
        x.hours(2);
        due("headIn(0, 0, 0)", 45, x.headIn(0, 0, 0));
        due("headIn(0, 1, 4)", 20, x.headIn(0, 1, 4));
    }

    private static void year() {
        // LOT 100 of the seeds 40 .. 59 and 0: 49 33 77 82 9 23 88 11 85 10 99 39 46 51 46 4 48 95 9 1
        String house = "chair c 0;head g 0 50 0 0 0;head h 0 0 0 0 0;visit g c 0;visit h c 1;moth 50;seed 40;says 50;"
            + "keeps=if which<1then own else 0;passes=cloth*which;";
        HeadCloths x = Checks.of(house);
        due("year(1, 0, 2, 20)", 7, x.year(1, 0, 2, 20));
        due("year(1, 0, 2, 1)", 0, x.year(1, 0, 2, 1));
        due("year(1, 0, 2, 3)", 1, x.year(1, 0, 2, 3));
        due("year(1, 0, 2, 4)", 2, x.year(1, 0, 2, 4));
        due("year(1, 0, 1, 20)", 0, x.year(1, 0, 1, 20));
        due("year(0, 0, 0, 20)", 20, x.year(0, 0, 0, 20));
        due("year(0, 0, 1, 20)", 0, x.year(0, 0, 1, 20));
        due("year(0, 3, 72, 20)", 0, x.year(0, 3, 72, 20));
        int[][] wrong = {{2, 0, 1, 1}, {-1, 0, 1, 1}, {0, 4, 1, 1}, {0, -1, 1, 1}, {0, 0, -1, 1}, {0, 0, 73, 1}, {0, 0, 1, 0},
            {0, 0, 1, 21}, {0, 0, 1, -1}, {MIN, MAX, MIN, MAX}};
        for (int[] w : wrong) {
            due("year(" + w[0] + ", " + w[1] + ", " + w[2] + ", " + w[3] + ")", -1, x.year(w[0], w[1], w[2], w[3]));
        }
        x = Checks.of(house + "moth 0;");
        due("year(1, 0, 2, 20): no moths", 20, x.year(1, 0, 2, 20));
        due("year(1, 0, 2, 7): no moths", 7, x.year(1, 0, 2, 7));
        x = Checks.of(house + "moth 1;seed 119;");
        due("year(1, 0, 2, 1): the least of moths", 0, x.year(1, 0, 2, 1));
        x = Checks.of(house + "seed 9999;");
        due("year(1, 0, 2, 20), beyond the last seed", yearByHand(9999, 20), x.year(1, 0, 2, 20));
    }

    private static int yearByHand(int seed, int s) {
        int said = 0;
        for (int i = 0; i < s; i++) {
            said += Model.lot(100, seed + i, 0) >= 50 ? 1 : 0;
        }
        return said;
    }

    private static void tellForgetWho() {
        HeadCloths x = Checks.of("chair a 0;chair b 0;head g 0 40 0 10 0;head h 0 20 60 0 5;head i 0 10 10 10 10;keeps=own/2;passes=0;");
        due("who(0, 0)", 3, x.who(0, 0));
        due("who(0, 1)", 7, x.who(0, 1));
        due("who(1, 0)", -1, x.who(1, 0));
        due("tell(0, 0, 10, true)", 0, x.tell(0, 0, 10, true));
        due("who(1, 1)", 3, x.who(1, 1));
        due("tell(1, 1, 30, false)", 1, x.tell(1, 1, 30, false));
        due("who(2, 1)", 1, x.who(2, 1));
        due("who(2, 0)", 1, x.who(2, 0));
        due("who(1, 0)", 2, x.who(1, 0));
        due("tell(0, 3, 0, false)", 2, x.tell(0, 3, 0, false));
        due("who(3, 0)", 0, x.who(3, 0));
        due("who(3, 1)", 0, x.who(3, 1));
        due("who(4, 0)", -1, x.who(4, 0));
        due("who(-1, 0)", -1, x.who(-1, 0));
        due("who(0, 2)", -1, x.who(0, 2));
        due("who(0, -1)", -1, x.who(0, -1));
        int[][] wrong = {{2, 0, 1}, {-1, 0, 1}, {0, 4, 1}, {0, -1, 1}, {0, 0, -1}, {0, 0, 1000}, {MAX, MIN, MAX}};
        for (int[] w : wrong) {
            due("tell(" + w[0] + ", " + w[1] + ", " + w[2] + ", true)", -1, x.tell(w[0], w[1], w[2], true));
        }
        due("count(10)", 3, x.count(10));
        due("count(9): none of it can be undone", 0, x.count(9));
        // what is there already counts too, and now
        x.sit(2, 0);
        due("who(1, 1), with 5 there", 3, x.who(1, 1));
        x.sit(2, 0);
        x.sit(2, 0);
        due("who(1, 1), with 8 there", 3, x.who(1, 1));
        x.sit(0, 0);
        due("who(1, 1), with 28 there", 7, x.who(1, 1));
        x.starch(0);
        due("who(1, 1), starched", 7, x.who(1, 1));
        due("forget()", 3, x.forget());
        due("forget()", 0, x.forget());
        for (int i = 0; i < 20; i++) {
            due("tell", i, x.tell(i % 2, i % 4, i == 7 ? 999 : 0, i != 7));
        }
        due("tell, a 21st", -1, x.tell(0, 0, 0, true));
        due("count(10)", 20, x.count(10));
        due("who(20, 1)", 7, x.who(20, 1));
        due("who(21, 1)", -1, x.who(21, 1));
        due("forget()", 20, x.forget());
        due("count(10)", 0, x.count(10));
        x = new HeadCloths();
        due("tell, no chairs", -1, x.tell(0, 0, 0, true));
    }

    private static void look() {
        HeadCloths x = Checks.of("chair a 0;chair b 1;head g 0 40 0 10 0;head h 0 40 60 0 5;head i 0 40 60 10 90;head j 0 40 60 10 90;"
            + "keeps=own/(2-mesh);passes=0;");
        // behind a sitting in a: 20 20 20 20, 0 30 30 30, 5 0 5 5, 0 2 45 45; in b twice that
        due("look(0, 5): by thought 3", 3, x.look(0, 5));
        due("look(0, 21)", 3, x.look(0, 21));
        due("look(0, 25)", 3, x.look(0, 25));
        due("look(0, 50): not in a", 13, x.look(0, 50));
        due("look(0, 3): 2 in a, 1 in b", 3, x.look(0, 3));
        due("look(0, 999): all alike, the first", 0, x.look(0, 999));
        due("look(0, 0): all alike, the first", 0, x.look(0, 0));
        due("look(0, 1)", 1, x.look(0, 1));
        x.tell(0, 3, 5, false);
        due("look(1, 5)", 1, x.look(1, 5));
        due("look(1, 4)", 1, x.look(1, 4));
        due("look(1, 6): g, h; in a by thought 1", 1, x.look(1, 6));
        due("look(1, 50): b", 11, x.look(1, 50));
        due("look(0, 5), told more", 3, x.look(0, 5));
        due("look(2, 5)", -1, x.look(2, 5));
        due("look(-1, 5)", -1, x.look(-1, 5));
        due("look(0, 1000)", -1, x.look(0, 1000));
        due("look(0, -1)", -1, x.look(0, -1));
        x.tell(0, 0, 0, false);
        due("look(2, 5): none is left", -2, x.look(2, 5));
        due("look(2, 1000): none is left", -1, x.look(2, 1000));
        x = Checks.of("head g 0 1 1 1 1;");
        due("look(0, 5): no chairs", -2, x.look(0, 5));
        x = Checks.of("chair g 0;");
        due("look(0, 5): no heads", -2, x.look(0, 5));
    }

    private static void holdRestore() {
        HeadCloths x = Checks.of(HOUSE);
        due("restore(0)", false, x.restore(0));
        due("count(11)", 0, x.count(11));
        x.sit(0, 0);
        x.starch(1);
        x.keep(2, false);
        x.tell(0, 0, 1, true);
        x.feed(1, 2, 3, 4, 5);
        due("hold(0)", true, x.hold(0));
        due("hold(2)", true, x.hold(2));
        due("hold(3)", false, x.hold(3));
        due("hold(-1)", false, x.hold(-1));
        due("count(11)", 2, x.count(11));
        x.hours(50);
        x.wash(0);
        x.keep(2, true);
        x.hold(2);
        x.tell(0, 0, 1, true);
        x.feed(1, 2, 3, 4, 5);
        due("restore(1)", false, x.restore(1));
        due("restore(3)", false, x.restore(3));
        due("restore(-1)", false, x.restore(-1));
        due("count(9)", 6, x.count(9));
        due("restore(0)", true, x.restore(0));
        due("count(9)", 0, x.count(9));
        due("undo()", false, x.undo());
        due("count(3)", 0, x.count(3));
        due("count(5)", 0, x.count(5));
        due("count(7)", 2, x.count(7));
        due("count(14)", 3, x.count(14));
        due("count(16)", 1, x.count(16));
        due("count(10): told stays", 2, x.count(10));
        due("count(8): the tape stays", 40, x.count(8));
        squares("restored", x, 0, 5, 2, 0, 0);
        owns("restored", x, 0, 45, 18, 0, 9);
        x.sit(0, 0);
        due("restore(0), once more", true, x.restore(0));
        squares("restored", x, 0, 5, 2, 0, 0);
        due("restore(2)", true, x.restore(2));
        due("count(3)", 50, x.count(3));
        due("count(14)", 7, x.count(14));
        due("count(11)", 2, x.count(11));
    }

    private static void count() {
        HeadCloths x = Checks.of(HOUSE);
        int[] first = {3, 2, 3, 0, 0, 0, 179, 0, 0, 0, 0, 0, 0, 3, 7, 7, 0, 0, 6};
        for (int what = 0; what < first.length; what++) {
            due("count(" + what + ")", first[what], x.count(what));
        }
        x.sit(0, 2);
        x.sit(1, 2);
        x.starch(2);
        x.starch(0);
        x.hours(49);
        x.keep(1, false);
        x.tell(0, 0, 0, true);
        x.feed(1, 1, 1, 1, 1);
        x.hold(1);
        due("count(3)", 49, x.count(3));
        due("count(4)", 1, x.count(4));
        due("count(5) and count(6)", 179, x.count(5) + x.count(6));
        due("count(7): washed on monday", 0, x.count(7));
        due("count(8)", 20, x.count(8));
        due("count(9)", 6, x.count(9));
        due("count(10)", 1, x.count(10));
        due("count(11)", 1, x.count(11));
        due("count(14)", 5, x.count(14));
        due("count(16)", 8, x.count(16));
        int empty = 0;
        int thoughts = 0;
        for (int chair = 0; chair < 3; chair++) {
            int all = 0;
            for (int t = 0; t < 4; t++) {
                all += x.chair(chair, t);
                thoughts |= x.chair(chair, t) > 0 ? 1 << t : 0;
            }
            empty |= all == 0 ? 1 << chair : 0;
        }
        due("count(15)", empty, x.count(15));
        due("count(15): a was starched, c has no mesh", 5, x.count(15));
        due("count(17)", thoughts, x.count(17));
        due("count(13)", (x.head(0, 5) != 0 ? 1 : 0) + (x.head(1, 5) != 0 ? 2 : 0), x.count(13));
        x = Checks.of("chair c 0;head h 9 10 0 0 60;head i 8 0 0 0 49;keeps=if thought<1then 0else own;");
        due("count(13)", 1, x.count(13));
        x.sit(0, 0);
        due("count(17)", 8, x.count(17));
        due("count(6)", 119, x.count(6));
        due("count(18)", 17, x.count(18));
        due("count(13)", 0, x.count(13));
        x = Checks.of("chair c 0;chair d 0;head h 9 1 0 0 0;");
        x.sit(0, 0);
        due("count(17): one is enough", 1, x.count(17));
        due("count(15)", 2, x.count(15));
        due("count(6)", 1, x.count(6));
        x.sit(0, 0);
        due("one goes back", 1, x.head(0, 0));
        for (int wrong : new int[] {-1, 19, 20, MIN, MAX}) {
            due("count(" + wrong + ")", -1, x.count(wrong));
        }
    }
}
