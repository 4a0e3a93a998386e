/** The edges that the document names in III and IV: what would be, and what is told of squares. */
public final class EdgesOfForesightTest {
    private static final String HOUSE = "chair a 3;chair b 7;chair c 0;head x 2 50 20 0 9;head y 4 10 60 30 0;head z 1 5 5 5 5;"
        + "visit x a 1;visit y b 1;visit x b 5;visit z c 23;keeps=own/4;passes=cloth/2;washes=cloth-mesh;fades=own/30;monday 2;seed 7;moth 40;";

    private EdgesOfForesightTest() {
    }

    public static void main(String[] args) {
        nothingHappens();
        mothsAlone();
        fewestSittings();
        orderOfSittings();
        alone();
        gainBelowZero();
        bestChairs();
        most();
        when();
        meet();
        without();
        alike();
        agree();
        fullest();
        share();
        silent();
        lost();
        clean();
        inHours();
        year();
        told();
        toldLimits();
        known();
        who();
        look();
        Checks.end("EdgesOfForesightTest");
    }

    private static void nothingHappens() {
        Edges.terms("What would be (nothing happens; MOTHS in IN n HOURS and YEAR alone).");
        Edges.nothingHappens("all of III and IV", HOUSE, x -> {
            x.sit(0, 0);
            x.hold(1);
            x.hours(3);
            x.starch(1);
            x.tell(0, 0, 9, true);
        }, x -> {
            x.sittings(2, 1, -1);
            x.sittings(2, 1, 0);
            x.alone(2, 0, 1);
            x.gain(0, 1, 1);
            x.bestChair(0, 1);
            x.most(0, 0);
            x.most(0, 1);
            x.when(2, 3);
            x.meet(0, 1, 72);
            x.without(0, 0, 72);
            x.alike(0);
            x.agree(0);
            x.fullest(1);
            x.share(0, 0);
            x.foremost(0);
            x.saysIn(0, 72);
            x.silent(0);
            x.lost(72);
            x.clean(0);
            x.headIn(0, 0, 72);
            x.chairIn(0, 0, 72);
            x.then(72, 4);
            x.year(0, 0, 72, 20);
            x.who(1, 0);
            x.look(1, 20);
            x.tells(0, 0, 0, 0);
        });
    }

    /** What g leaves in hour 0 a moth eats ahead of hour 1, in which h would get it. */
    private static void mothsAlone() {
        Edges.terms("MOTHS in IN n HOURS and YEAR alone");
        String house = "chair c 0;head g 0 50 50 0 0;head h 0 0 0 0 0;visit g c 0;visit h c 1;visit h c 9;says 50;"
            + "keeps=if which<1then own else 0;passes=cloth*which;";
        HeadCloths x = Edges.of(house + "moth 100;");
        Edges.due("headIn(1, 0, 2)", 0, x.headIn(1, 0, 2));
        Edges.due("chairIn(0, 0, 1)", 0, x.chairIn(0, 0, 1));
        Edges.due("saysIn(1, 2)", 0, x.saysIn(1, 2));
        Edges.due("then(2, 0)", 0, x.then(2, 0));
        Edges.due("then(2, 4)", 100, x.then(2, 4));
        Edges.due("year(1, 0, 2, 5)", 0, x.year(1, 0, 2, 5));
        Edges.due("when(1, 0)", 2, x.when(1, 0));
        Edges.due("meet(0, 1, 2)", 2, x.meet(0, 1, 2));
        Edges.due("without(2, 0, 2)", 50, x.without(2, 0, 2));
        Edges.due("lost(2)", 0, x.lost(2));
        // nobody says it in hour 1, with a moth or not; with one nobody ever says it again
        Edges.due("silent(0)", 1, x.silent(0));
        x.hours(2);
        Edges.due("hours have moths", 100, x.count(5));
        x = Edges.of(house + "moth 0;");
        Edges.due("headIn(1, 0, 2), no moth", 50, x.headIn(1, 0, 2));
        // each hour g gives one and h gets one; h loses one each hour: a moth would make it silent
        x = Edges.of("chair c 0;head g 0 90 0 0 0;head h 0 50 0 0 0;visit h c 0;keeps=if which<1then own else 0;passes=which;"
            + "fades=if hour<1then which else 0;moth 100;");
        x.sit(0, 0);
        Edges.due("silent(0): a moth would bring it about", -2, x.silent(0));
    }

    private static void sittingsAre(HeadCloths x, int head, int thought, int... path) {
        Edges.due("sittings(" + head + ", " + thought + ", -1)", path.length, x.sittings(head, thought, -1));
        for (int i = 0; i < 3; i++) {
            Edges.due("sittings(" + head + ", " + thought + ", " + i + ")", i < path.length ? path[i] : -1, x.sittings(head, thought, i));
        }
    }

    private static void notByThree(HeadCloths x, int head, int thought) {
        for (int i = -1; i < 3; i++) {
            Edges.due("sittings(" + head + ", " + thought + ", " + i + ")", -2, x.sittings(head, thought, i));
        }
    }

    private static void fewestSittings() {
        Edges.terms("the fewest now (0 .. 3), one behind the other, any HEAD in any CHAIR, behind which that one SAYS it");
        // all but the first leave what they have, the first gets it: 20 each
        String house = "chair c 0;head a 0 20 0 0 0;head b 0 20 0 0 0;head d 0 20 0 0 0;head e 0 20 0 0 0;"
            + "keeps=if which<1then 0else own;passes=if which<1then cloth else 0;";
        sittingsAre(Edges.of(house + "says 19;"), 0, 0);
        sittingsAre(Edges.of(house + "says 20;"), 0, 0);
        sittingsAre(Edges.of(house + "says 21;"), 0, 0, 10, 0);
        sittingsAre(Edges.of(house + "says 40;"), 0, 0, 10, 0);
        sittingsAre(Edges.of(house + "says 41;"), 0, 0, 10, 20, 0);
        sittingsAre(Edges.of(house + "says 60;"), 0, 0, 10, 20, 0);
        notByThree(Edges.of(house + "says 61;"), 0, 0);
        notByThree(Edges.of(house + "says 80;"), 0, 0);
        HeadCloths x = Edges.of(house + "says 61;");
        x.sit(3, 0);
        sittingsAre(x, 0, 0, 10, 20, 0);
        x.sit(1, 0);
        sittingsAre(x, 0, 0, 20, 0);
        x.sit(2, 0);
        sittingsAre(x, 0, 0, 0);
        x.sit(0, 0);
        sittingsAre(x, 0, 0);
        // no chair is there but those that are starched
        x = Edges.of(house + "says 21;");
        sittingsAre(x, 0, 0, 10, 0);
        x.starch(0);
        notByThree(x, 0, 0);
        // nobody is there but the one: another who sat ahead of it would do
        String one = "chair c 0;chair d 1;head a 0 10 0 0 0;says 10;keeps=if sat<1then own-mesh*5else 0;passes=if sat<1then 0else if sat<2then 5else 0;";
        x = Edges.of(one);
        x.sit(0, 1);
        x.change(0, 1);
        x.starch(1);
        notByThree(x, 0, 0);
        x = Edges.of(one + "head b 0 0 0 0 0;");
        x.sit(0, 1);
        x.change(0, 1);
        x.starch(1);
        sittingsAre(x, 0, 0, 10, 0);
        x = Edges.of("head a 0 20 0 0 0;says 21;");
        notByThree(x, 0, 0);
        x = Edges.of("head a 0 20 0 0 0;says 20;");
        sittingsAre(x, 0, 0);
    }

    private static void orderOfSittings() {
        Edges.terms("of as many those by the lowest HEAD first, then CHAIR, then the next SITTING");
        String heads = "head a 0 20 0 0 0;head b 0 20 0 0 0;head d 0 20 0 0 0;";
        String laws = "keeps=if which<1then 0else own;passes=if which<1then cloth else 0;";
        // the same by each chair: the first
        sittingsAre(Edges.of("chair c 0;chair f 0;" + heads + laws + "says 60;"), 0, 0, 10, 20, 0);
        // the first chair is starched: the next one
        HeadCloths x = Edges.of("chair c 0;chair f 0;chair g 0;" + heads + laws + "says 60;");
        x.starch(0);
        sittingsAre(x, 0, 0, 11, 21, 1);
        // the one that is told is the last of heads: its own sitting is the last all the same
        x = Edges.of("chair c 0;chair f 0;" + heads + "keeps=if which<2then own else 0;passes=if which<2then 0else cloth;says 60;");
        sittingsAre(x, 2, 0, 0, 10, 20);
        // by itself alone, from two squares
        x = Edges.of("chair c 0;chair f 0;" + heads + laws + "says 60;");
        x.sit(1, 0);
        x.sit(2, 1);
        sittingsAre(x, 0, 0, 0, 1);
        // only the second chair and the third keep anything
        String mesh = "chair c 0;chair f 1;chair g 1;head a 0 9 0 0 0;head b 0 9 0 0 0;head d 0 5 0 0 0;"
            + "keeps=if which<2then own*mesh else 0;passes=if which<2then 0else cloth;";
        sittingsAre(Edges.of(mesh + "says 14;"), 2, 0, 1, 21);
        sittingsAre(Edges.of(mesh + "says 15;"), 2, 0, 1, 11, 21);
        // three are needed since nothing is passed on in a chair in which fewer than two sat: any may be the first two
        x = Edges.of("chair c 0;chair f 0;head a 0 10 0 0 0;head b 0 5 0 0 0;keeps=if sat<1then 5else 0;passes=if sat<2then 0else cloth;says 9;");
        sittingsAre(x, 1, 0, 0, 0, 10);
    }

    private static void alone() {
        Edges.terms("ALONE: behind how many SITTINGS (0 .. 60) of that HEAD in one CHAIR told it SAYS it.");
        String house = "chair c 0;chair d 0;head a 0 99 0 0 0;head b 0 0 0 0 0;keeps=if which<1then own else 0;passes=which;";
        int[][] rows = {{1, 1}, {2, 2}, {59, 59}, {60, 60}, {61, -2}, {62, -2}, {99, -2}, {100, -2}, {999, -2}};
        for (int[] row : rows) {
            HeadCloths x = Edges.of(house + "says " + row[0] + ";");
            x.sit(0, 0);
            Edges.due("alone(1, 0, 0), says " + row[0], row[1], x.alone(1, 0, 0));
            Edges.due("alone(1, 1, 0), says " + row[0], -2, x.alone(1, 1, 0));
            x.starch(0);
            Edges.due("starched", -2, x.alone(1, 0, 0));
        }
        HeadCloths x = Edges.of(house + "says 99;");
        Edges.due("alone(0, 0, 0): it says it now", 0, x.alone(0, 0, 0));
        // 61 and more sittings would do, were they asked for
        x = Edges.of(house + "says 60;");
        x.sit(0, 0);
        x.sit(1, 0);
        Edges.due("one less", 59, x.alone(1, 0, 0));
    }

    private static void gainBelowZero() {
        Edges.terms("GAIN of a HEAD in a CHAIR: how much more it would have of a THOUGHT behind a SITTING now (may be below 0).");
        HeadCloths x = Edges.of("chair c 0;chair d 0;head a 0 99 9 0 0;head b 0 0 0 9 0;keeps=own;passes=cloth;");
        Edges.due("gain(0, 0, 0)", -99, x.gain(0, 0, 0));
        Edges.due("gain(0, 0, 1)", -9, x.gain(0, 0, 1));
        Edges.due("gain(0, 0, 3)", 0, x.gain(0, 0, 3));
        x.sit(0, 0);
        Edges.due("gain(0, 0, 0)", 99, x.gain(0, 0, 0));
        Edges.due("gain(1, 0, 0)", 99, x.gain(1, 0, 0));
        Edges.due("gain(1, 0, 2)", -9, x.gain(1, 0, 2));
        Edges.due("gain(1, 1, 0)", 0, x.gain(1, 1, 0));
        x.starch(0);
        Edges.due("gain(1, 0, 0), starched", 0, x.gain(1, 0, 0));
        Edges.due("gain(1, 0, 2), starched", 0, x.gain(1, 0, 2));
        // NONE is an answer here too
        x = Edges.of("chair c 0;head a 0 9 0 0 0;keeps=1;passes=0;");
        Edges.due("gain(0, 0, 0)", -1, x.gain(0, 0, 0));
    }

    private static void bestChairs() {
        Edges.terms("BEST CHAIR of a HEAD for a THOUGHT: that with most GAIN, of alike ones the first.");
        HeadCloths x = Edges.of("chair a 5;chair b 3;chair c 1;chair d 1;head h 0 50 0 0 0;head i 0 0 0 0 0;keeps=mesh;passes=cloth;");
        Edges.due("all below 0, two alike", 2, x.bestChair(0, 0));
        Edges.due("all 0", 0, x.bestChair(0, 1));
        x.sit(0, 3);
        Edges.due("1 for 1", 3, x.bestChair(0, 0));
        Edges.due("for another", 3, x.bestChair(1, 0));
        x.sit(0, 1);
        Edges.due("for another: 3", 1, x.bestChair(1, 0));
        x.starch(1);
        Edges.due("starched", 3, x.bestChair(1, 0));
        x = Edges.of("chair a 5;head h 0 50 0 0 0;");
        Edges.due("the one there is", 0, x.bestChair(0, 0));
    }

    private static void most() {
        Edges.terms("MOST of a THOUGHT: the HEAD that has most of it, of alike ones the first; the CHAIR.");
        HeadCloths x = Edges.of("chair a 5;chair b 5;chair c 5;head h 0 50 0 7 99;head i 0 50 0 8 0;head j 0 49 0 8 98;keeps=mesh;passes=0;");
        int[] heads = {0, 0, 1, 0};
        for (int t = 0; t < 4; t++) {
            Edges.due("most(" + t + ", 0)", heads[t], x.most(t, 0));
            Edges.due("most(" + t + ", 1), empty squares", 0, x.most(t, 1));
        }
        x.sit(0, 1);
        x.sit(0, 2);
        Edges.due("most(0, 1): b and c alike", 1, x.most(0, 1));
        Edges.due("most(0, 0)", 1, x.most(0, 0));
        x.sit(1, 2);
        Edges.due("most(0, 1): c", 2, x.most(0, 1));
        Edges.due("most(1, 1): none", 0, x.most(1, 1));
    }

    private static void when() {
        Edges.terms("WHEN a HEAD SAYS a THOUGHT: behind how many HOURS (0 .. 200).");
        String house = "chair c 0;head g 0 99 0 0 0;head h 0 0 0 0 0;keeps=if which<1then own else 0;passes=which;";
        // one a day: the ninth comes in hour 192 + that of the visit
        int[][] rows = {{0, 1, 1}, {0, 9, 193}, {6, 9, 199}, {7, 9, 200}, {8, 9, -2}, {23, 9, -2}, {23, 8, 192}, {0, 10, -2}, {7, 10, -2}};
        for (int[] row : rows) {
            HeadCloths x = Edges.of(house + "visit h c " + row[0] + ";says " + row[1] + ";");
            x.sit(0, 0);
            Edges.due("when(1, 0), visit " + row[0] + ", says " + row[1], row[2], x.when(1, 0));
        }
        HeadCloths x = Edges.of(house + "says 99;");
        Edges.due("when(0, 0): now", 0, x.when(0, 0));
        Edges.due("when(1, 0): never", -2, x.when(1, 0));
        // it counts from now on
        x = Edges.of(house + "visit h c 8;says 9;");
        x.sit(0, 0);
        x.hours(1);
        Edges.due("when(1, 0), an hour later", 200, x.when(1, 0));
        x.hours(72);
        Edges.due("when(1, 0), three days later", 128, x.when(1, 0));
        // said once, and no more then: the first time counts
        x = Edges.of("chair c 0;head g 0 99 0 0 0;head h 0 49 0 0 0;visit h c 3;keeps=if which<1then own else 0;passes=which;"
            + "fades=if hour<5then 0else which;");
        x.sit(0, 0);
        Edges.due("when(1, 0), the first time", 4, x.when(1, 0));
    }

    private static void meet() {
        Edges.terms("MEET of two THOUGHTS: HEADS who SAY both behind n HOURS (0 .. 72, no MOTH).");
        HeadCloths x = Edges.of("head g 0 50 50 0 0;head h 0 99 49 60 0;head i 0 99 99 50 0;head j 0 49 50 0 0;head k 0 99 99 99 99;"
            + "fades=if which<4then 0else if hour<23then 0else 25;");
        Edges.due("meet(0, 1, 0)", 1 + 4 + 16, x.meet(0, 1, 0));
        Edges.due("meet(1, 0, 0)", 1 + 4 + 16, x.meet(1, 0, 0));
        Edges.due("meet(0, 2, 0)", 2 + 4 + 16, x.meet(0, 2, 0));
        Edges.due("meet(0, 3, 0)", 16, x.meet(0, 3, 0));
        Edges.due("meet(0, 3, 47)", 16, x.meet(0, 3, 47));
        Edges.due("meet(0, 3, 48)", 0, x.meet(0, 3, 48));
        Edges.due("meet(0, 2, 72)", 2 + 4, x.meet(0, 2, 72));
        Edges.due("meet(0, 2, 73)", -1, x.meet(0, 2, 73));
        Edges.due("meet(0, 2, -1)", -1, x.meet(0, 2, -1));
    }

    private static void without() {
        Edges.terms("WITHOUT a VISIT: how much of a THOUGHT its HEAD has in n HOURS (1 .. 72), were it given up.");
        HeadCloths x = Edges.of("chair c 0;head g 0 90 0 0 0;head h 0 80 0 0 0;visit g c 0;visit g c 0;visit h c 0;visit g c 23;keeps=1;passes=0;");
        Edges.due("without(0, 0, 0)", -1, x.without(0, 0, 0));
        Edges.due("without(0, 0, 1)", 89, x.without(0, 0, 1));
        Edges.due("without(1, 0, 1)", 89, x.without(1, 0, 1));
        Edges.due("without(2, 0, 1)", 80, x.without(2, 0, 1));
        Edges.due("without(3, 0, 1)", 88, x.without(3, 0, 1));
        Edges.due("without(3, 0, 72)", 84, x.without(3, 0, 72));
        Edges.due("without(0, 0, 72)", 84, x.without(0, 0, 72));
        Edges.due("without(2, 0, 72)", 80, x.without(2, 0, 72));
        Edges.due("without(2, 0, 73)", -1, x.without(2, 0, 73));
        x.keep(0, false);
        Edges.due("without(0, 0, 1), given up already", 89, x.without(0, 0, 1));
        Edges.due("without(1, 0, 1), both given up", 90, x.without(1, 0, 1));
        Edges.due("visit(1, 3)", 1, x.visit(1, 3));
    }

    private static void alike() {
        Edges.terms("ALIKE: the two CHAIRS whose squares differ least, THOUGHT by THOUGHT, added, of alike ones the first; how much.");
        HeadCloths x = Edges.of("chair a 0;chair b 1;chair c 2;chair d 5;head h 0 90 90 0 0;head i 0 0 0 90 90;keeps=mesh;passes=0;");
        Edges.due("alike(0), all empty", 1, x.alike(0));
        Edges.due("alike(1), all empty", 0, x.alike(1));
        x.sit(0, 1);
        x.sit(1, 2);
        x.sit(0, 3);
        // 0 0 0 0, 1 1 0 0, 0 0 2 2, 5 5 0 0
        Edges.due("alike(0)", 1, x.alike(0));
        Edges.due("alike(1)", 2, x.alike(1));
        x.sit(0, 2);
        x.sit(1, 1);
        // 0 0 0 0, 1 1 1 1, 2 2 2 2, 5 5 0 0: a and b, b and c are both 4 apart
        Edges.due("alike(0), two alike", 1, x.alike(0));
        Edges.due("alike(1), two alike", 4, x.alike(1));
        x.sit(0, 1);
        // 2 2 1 1 and 2 2 2 2
        Edges.due("alike(0)", 12, x.alike(0));
        Edges.due("alike(1)", 2, x.alike(1));
        x = Edges.of("chair a 0;chair b 0;");
        Edges.due("alike(0) of two", 1, x.alike(0));
        Edges.due("alike(1) of two", 0, x.alike(1));
        x = Edges.of("chair a 9;chair b 9;chair c 1;chair d 1;head h 0 90 90 0 0;keeps=mesh*(mesh-1);passes=0;");
        x.sit(0, 1);
        x.sit(0, 0);
        Edges.due("alike(0), the last two", 23, x.alike(0));
    }

    private static void agree() {
        Edges.terms("AGREE: the two HEADS that differ least, likewise.");
        HeadCloths x = Edges.of("head g 0 50 50 0 0;head h 0 48 53 0 0;head i 0 48 50 3 0;head j 0 0 0 0 99;head k 0 3 0 1 98;");
        // g h 5, g i 5, h i 6, j k 5
        Edges.due("agree(0), three alike", 1, x.agree(0));
        Edges.due("agree(1)", 5, x.agree(1));
        x = Edges.of("head g 0 50 50 0 0;head h 0 48 54 0 0;head i 0 48 50 4 0;head j 0 0 0 0 99;head k 0 3 0 1 98;");
        Edges.due("agree(0), the last two", 34, x.agree(0));
        Edges.due("agree(1)", 5, x.agree(1));
        x = Edges.of("head g 0 99 99 99 99;head h 0 0 0 0 0;");
        Edges.due("agree(0) of two", 1, x.agree(0));
        Edges.due("agree(1): as far as can be", 396, x.agree(1));
        x = Edges.of("head g 0 10 20 0 0;head h 0 20 10 0 0;head i 0 0 0 11 22;");
        Edges.due("what is more and what is less is added", 20, x.agree(1));
    }

    private static void fullest() {
        Edges.terms("FULLEST: the HEAD that has most of all THOUGHTS together, of alike ones the first; how much.");
        HeadCloths x = Edges.of("head g 0 1 2 3 4;head h 0 10 0 5 0;head i 0 0 15 0 0;head j 0 99 99 99 98;head k 0 99 99 99 99;");
        Edges.due("fullest(0)", 4, x.fullest(0));
        Edges.due("fullest(1)", 396, x.fullest(1));
        x = Edges.of("head g 0 1 2 3 4;head h 0 10 0 5 0;head i 0 0 15 0 0;head j 0 0 0 0 15;");
        Edges.due("fullest(0), three alike", 1, x.fullest(0));
        Edges.due("fullest(1), three alike", 15, x.fullest(1));
        x = Edges.of("head g 0 0 0 0 0;head h 0 0 0 0 0;");
        Edges.due("fullest(0), nothing", 0, x.fullest(0));
        Edges.due("fullest(1), nothing", 0, x.fullest(1));
    }

    private static void share() {
        Edges.terms("SHARE of a THOUGHT in a CHAIR: by 1,000 of all that is in its square, rounded down (empty: 0).");
        HeadCloths x = Edges.of("chair c 0;chair d 0;chair e 0;head g 0 1 1 1 0;head h 0 99 0 0 0;head i 0 98 99 99 99;keeps=own;passes=0;");
        for (int t = 0; t < 4; t++) {
            Edges.due("share(0, " + t + "), empty", 0, x.share(0, t));
        }
        x.sit(0, 0);
        Edges.due("a third", 333, x.share(0, 0));
        Edges.due("none of it", 0, x.share(0, 3));
        x.sit(1, 1);
        Edges.due("all of it", 1000, x.share(1, 0));
        Edges.due("none of it", 0, x.share(1, 1));
        x.sit(2, 2);
        // 98000 / 395 and 99000 / 395
        Edges.due("a bit less than a quarter", 248, x.share(2, 0));
        Edges.due("a bit more", 250, x.share(2, 1));
        x.wash(0);
        Edges.due("empty once more", 0, x.share(0, 0));
        // 2000 / 297 is a bit less than 7
        x = Edges.of("chair c 0;head g 0 99 2 98 98;keeps=own;passes=0;");
        x.sit(0, 0);
        Edges.due("2 of 297", 6, x.share(0, 1));
        x = Edges.of("chair c 0;head g 0 0 1 0 0;");
        x.sit(0, 0);
        Edges.due("1 of 1", 1000, x.share(0, 1));
        Edges.due("0 of 1", 0, x.share(0, 0));
    }

    private static void silent() {
        Edges.terms("SILENT of a THOUGHT: behind how many HOURS (0 .. 200) nobody SAYS it.");
        // one a day goes in that hour: the ninth in hour 192 and more
        int[][] rows = {{0, 50, 1}, {0, 58, 193}, {6, 58, 199}, {7, 58, 200}, {8, 58, -2}, {23, 57, 192}, {0, 59, -2}, {7, 59, -2},
            {7, 99, -2}, {5, 49, 0}};
        for (int[] row : rows) {
            HeadCloths x = Edges.of("head h 0 " + row[1] + " 0 0 0;fades=if hour<" + row[0] + " then 0else if " + row[0] + "<hour then 0else 1;");
            Edges.due("silent(0), hour " + row[0] + ", has " + row[1], row[2], x.silent(0));
            Edges.due("silent(1)", 0, x.silent(1));
        }
        HeadCloths x = Edges.of("head g 0 55 0 0 0;head h 0 60 0 0 0;head i 0 52 0 0 0;fades=1;");
        Edges.due("the last of them", 11, x.silent(0));
        x = Edges.of("chair c 0;");
        Edges.due("no heads", 0, x.silent(0));
    }

    private static void lost() {
        Edges.terms("LOST in n HOURS (0 .. 72, no MOTH): SUDS more.");
        HeadCloths x = Edges.of("chair c 0;head h 0 99 0 0 0;keeps=5;passes=0;fades=1;moth 100;monday 3;");
        Edges.due("lost(0)", 0, x.lost(0));
        Edges.due("lost(1)", 1, x.lost(1));
        Edges.due("lost(71)", 71, x.lost(71));
        Edges.due("lost(72)", 72, x.lost(72));
        x.sit(0, 0);
        Edges.due("lost(71), the square is not washed", 71, x.lost(71));
        Edges.due("lost(72), it is", 77, x.lost(72));
        x.wash(0);
        Edges.due("lost(0), more than now", 0, x.lost(0));
        Edges.due("lost(2), more than now", 2, x.lost(2));
        Edges.due("lost(73)", -1, x.lost(73));
        Edges.due("lost(-1)", -1, x.lost(-1));
    }

    private static void clean() {
        Edges.terms("CLEAN: the CHAIR which, washed now, gives most to the SUDS, of alike ones the first; how much.");
        HeadCloths x = Edges.of("chair a 1;chair b 2;chair c 2;chair d 9;head h 0 90 90 90 90;keeps=if 5<mesh then 9else 3;passes=0;"
            + "washes=if 5<mesh then 0else mesh;");
        Edges.due("clean(0), empty", 0, x.clean(0));
        Edges.due("clean(1), empty", 0, x.clean(1));
        x.sit(0, 3);
        Edges.due("clean(0): much is in it, nothing is washed out", 0, x.clean(0));
        Edges.due("clean(1)", 0, x.clean(1));
        x.sit(0, 2);
        x.sit(0, 1);
        x.sit(0, 0);
        Edges.due("clean(0), two alike", 1, x.clean(0));
        Edges.due("clean(1), two alike", 8, x.clean(1));
        x.starch(1);
        Edges.due("clean(0), starched", 1, x.clean(0));
        Edges.due("wash(1): as much", 8, x.wash(1));
        Edges.due("clean(0)", 2, x.clean(0));
    }

    private static void inHours() {
        Edges.terms("IN n HOURS (0 .. 72; with MOTHS): how much a HEAD, a CHAIR has of a THOUGHT; who SAYS it; the SUDS.");
        for (int n : new int[] {0, 1, 2, 6, 23, 24, 25, 47, 48, 71, 72}) {
            HeadCloths x = Edges.of(HOUSE);
            HeadCloths y = Edges.of(HOUSE);
            x.sit(1, 0);
            y.sit(1, 0);
            y.hours(n);
            for (int t = 0; t < 4; t++) {
                int bits = 0;
                for (int who = 0; who < 3; who++) {
                    Edges.due("headIn(" + who + ", " + t + ", " + n + ")", y.head(who, t), x.headIn(who, t, n));
                    Edges.due("chairIn(" + who + ", " + t + ", " + n + ")", y.chair(who, t), x.chairIn(who, t, n));
                    bits |= (y.head(who, 5) >> t & 1) << who;
                }
                Edges.due("then(" + n + ", " + t + ")", bits, x.then(n, t));
            }
            for (int who = 0; who < 3; who++) {
                Edges.due("saysIn(" + who + ", " + n + ")", y.head(who, 5), x.saysIn(who, n));
            }
            Edges.due("then(" + n + ", 4)", y.count(5), x.then(n, 4));
        }
        HeadCloths x = Edges.of(HOUSE);
        for (int n : new int[] {-1, 73, Edges.MIN, Edges.MAX}) {
            Edges.due("headIn, n " + n, -1, x.headIn(0, 0, n));
            Edges.due("chairIn, n " + n, -1, x.chairIn(0, 0, n));
            Edges.due("saysIn, n " + n, -1, x.saysIn(0, n));
            Edges.due("then, n " + n, -1, x.then(n, 0));
            Edges.due("then, n " + n, -1, x.then(n, 4));
        }
    }

    private static void year() {
        Edges.terms("YEAR by s SEEDS (1 .. 20) from the text's SEED on: in how many of them a HEAD SAYS a THOUGHT in n HOURS (0 .. 72).");
        String house = "chair c 0;head g 0 50 0 0 0;head h 0 0 0 0 0;visit g c 0;visit h c 1;moth 50;"
            + "keeps=if which<1then own else 0;passes=cloth*which;";
        for (int seed : new int[] {0, 40, 9980, 9990, 9999}) {
            HeadCloths x = Edges.of(house + "seed " + seed + ";");
            int said = 0;
            for (int s = 1; s <= 20; s++) {
                said += Model.lot(100, seed + s - 1, 0) >= 50 ? 1 : 0;
                Edges.due("year(1, 0, 2, " + s + "), seed " + seed, said, x.year(1, 0, 2, s));
                Edges.due("year(1, 0, 72, " + s + "), seed " + seed, said, x.year(1, 0, 72, s));
                Edges.due("year(0, 0, 0, " + s + "), now", s, x.year(0, 0, 0, s));
                Edges.due("year(1, 0, 1, " + s + "), too soon", 0, x.year(1, 0, 1, s));
            }
            for (int s : new int[] {0, 21, -1, Edges.MIN, Edges.MAX}) {
                Edges.due("year, s " + s, -1, x.year(0, 0, 0, s));
            }
            for (int n : new int[] {-1, 73, Edges.MIN, Edges.MAX}) {
                Edges.due("year, n " + n, -1, x.year(0, 0, n, 1));
            }
        }
        for (int moth : new int[] {1, 2, 99}) {
            HeadCloths x = Edges.of(house + "seed 110;moth " + moth + ";");
            int said = 0;
            for (int s = 1; s <= 20; s++) {
                said += Model.lot(100, 110 + s - 1, 0) >= moth ? 1 : 0;
                Edges.due("year(1, 0, 2, " + s + "), moth " + moth, said, x.year(1, 0, 2, s));
            }
        }
        HeadCloths x = Edges.of(house + "moth 0;");
        Edges.due("no moths, 1", 1, x.year(1, 0, 2, 1));
        Edges.due("no moths, 20", 20, x.year(1, 0, 2, 20));
        Edges.due("no moths, never", 0, x.year(1, 1, 72, 20));
        x = Edges.of(house + "moth 100;");
        Edges.due("moths each hour", 0, x.year(1, 0, 2, 20));
    }

    // ---- IV

    private static void told() {
        Edges.terms("that behind a SITTING now in a CHAIR, by a HEAD unknown, the square has v (0 .. 999) or more of a THOUGHT, or has not");
        HeadCloths x = Edges.of("chair c 0;head g 0 10 0 0 0;head h 0 11 0 0 0;head i 0 12 0 0 0;keeps=own;passes=0;");
        int[][] rows = {{0, 7}, {1, 7}, {10, 7}, {11, 6}, {12, 4}, {13, 0}, {999, 0}};
        for (int[] row : rows) {
            x.tell(0, 0, row[0], true);
            Edges.due("who(1, 1): " + row[0] + " or more", row[1], x.who(1, 1));
            x.forget();
            x.tell(0, 0, row[0], false);
            Edges.due("who(1, 1): not " + row[0] + " or more", 7 - row[1], x.who(1, 1));
            x.forget();
        }
        // in that chair, of that thought
        x = Edges.of("chair c 0;chair d 1;chair e 2;head g 0 10 0 0 0;head h 0 0 0 0 10;keeps=own*mesh;passes=0;");
        int[][] rows2 = {{0, 0, 0}, {1, 0, 1}, {2, 0, 1}, {1, 3, 2}, {2, 3, 2}, {1, 1, 0}, {0, 3, 0}};
        for (int[] row : rows2) {
            x.tell(row[0], row[1], 1, true);
            Edges.due("chair " + row[0] + ", thought " + row[1], row[2], x.who(1, 1));
            x.forget();
        }
        // what the square has now counts, and what would be passed on
        x = Edges.of("chair c 0;head g 0 10 0 0 0;head h 0 11 0 0 0;keeps=own;passes=which*cloth;");
        x.sit(0, 0);
        x.tell(0, 0, 11, true);
        Edges.due("g leaves 10, h leaves 11", 2, x.who(1, 1));
        x.starch(0);
        Edges.due("starched: 10 stay", 0, x.who(1, 1));
        x.tell(0, 0, 10, true);
        x.forget();
        x.tell(0, 0, 10, true);
        Edges.due("starched: 10 stay", 3, x.who(1, 1));
    }

    private static void toldLimits() {
        Edges.terms("20 at most, numbered from 0 on");
        HeadCloths x = Edges.of("chair c 0;head g 0 10 0 0 0;");
        for (int i = 0; i < 20; i++) {
            Edges.due("tell", i, x.tell(0, 0, 0, true));
        }
        Edges.due("tell, a 21st", -1, x.tell(0, 0, 0, true));
        Edges.due("tell, a 21st", -1, x.tell(0, 0, 0, false));
        Edges.due("count(10)", 20, x.count(10));
        Edges.due("who(20, 1)", 1, x.who(20, 1));
        Edges.due("forget()", 20, x.forget());
        Edges.due("tell, from 0 on", 0, x.tell(0, 0, 0, false));
        Edges.due("who(1, 1)", 0, x.who(1, 1));
    }

    private static void known() {
        Edges.terms("KNOWN by k: the first k.");
        HeadCloths x = Edges.of("chair c 0;head g 0 10 0 0 0;head h 0 11 0 0 0;head i 0 12 0 0 0;head j 0 13 0 0 0;head k 0 14 0 0 0;keeps=own;");
        x.tell(0, 0, 11, true);
        x.tell(0, 0, 14, false);
        x.tell(0, 0, 12, true);
        x.tell(0, 0, 13, false);
        x.tell(0, 0, 12, false);
        int[] left = {31, 30, 14, 12, 4, 0};
        for (int k = 0; k <= 5; k++) {
            Edges.due("who(" + k + ", 1)", left[k], x.who(k, 1));
            Edges.due("who(" + k + ", 0)", Integer.bitCount(left[k]), x.who(k, 0));
        }
        Edges.due("who(6, 1)", -1, x.who(6, 1));
        Edges.due("look(5, 12): none is left", -2, x.look(5, 12));
        Edges.due("look(4, 12)", 0, x.look(4, 12));
    }

    private static void who() {
        Edges.terms("WHO: HEADS of whom all that is KNOWN is so: how many; which (bits).");
        HeadCloths x = Edges.of("chair c 0;head g 0 10 0 0 0;head h 0 11 0 0 0;head i 0 12 0 0 0;head j 0 13 0 0 0;head k 0 14 0 0 0;keeps=own;");
        Edges.due("who(0, 0): nothing is known", 5, x.who(0, 0));
        Edges.due("who(0, 1)", 31, x.who(0, 1));
        x.tell(0, 0, 14, true);
        Edges.due("who(1, 1): the last head", 16, x.who(1, 1));
        x.tell(0, 0, 14, false);
        Edges.due("who(2, 0): both cannot be", 0, x.who(2, 0));
        Edges.due("who(0, 1): nobody is there", 0, Edges.of("chair c 0;").who(0, 1));
        Edges.due("who(0, 0): nobody is there", 0, Edges.of("chair c 0;").who(0, 0));
    }

    private static void look() {
        Edges.terms("LOOK by v: the CHAIR, then the THOUGHT, of which, once it is told so, fewest are left, at worst; of alike ones the first.");
        // behind a sitting the square has 10 of the thought that is told of the head, 0 of others; in the second chair 20
        HeadCloths x = Edges.of("chair c 1;chair d 2;head g 0 10 10 10 10;head h 0 0 10 10 10;head i 0 0 0 10 10;head j 0 0 0 0 10;keeps=own*mesh;");
        Edges.due("look(0, 10): 1 and 3, 2 and 2, 3 and 1, 4 and 0", 1, x.look(0, 10));
        Edges.due("look(0, 0): all alike", 0, x.look(0, 0));
        Edges.due("look(0, 11): held to own, all alike", 0, x.look(0, 11));
        Edges.due("look(0, 999): all alike", 0, x.look(0, 999));
        x.tell(0, 1, 10, true);
        Edges.due("look(1, 10): of g and h by thought 0", 0, x.look(1, 10));
        x.tell(0, 0, 10, false);
        Edges.due("look(2, 10): h alone, all alike", 0, x.look(2, 10));
        x.forget();
        x.tell(0, 2, 10, false);
        Edges.due("look(1, 10): j alone", 0, x.look(1, 10));
        x.forget();
        x.tell(0, 1, 10, false);
        Edges.due("look(1, 10): of i and j by thought 2", 2, x.look(1, 10));
        // the second chair alone tells them apart
        x = Edges.of("chair c 1;chair d 2;head g 0 0 40 0 0;head h 0 0 40 0 9;head i 0 0 40 0 9;head j 0 0 40 0 0;keeps=if mesh<2then 0else own;");
        Edges.due("look(0, 5)", 13, x.look(0, 5));
        x.starch(1);
        Edges.due("look(0, 5), starched", 0, x.look(0, 5));
        for (String none : new String[] {"chair c 0;", "head h 0 1 1 1 1;", ""}) {
            Edges.due("look(0, 0) of " + none, -2, Edges.of(none).look(0, 0));
        }
    }
}
