import java.math.BigInteger;

/** The edges that the document names in II: laws, lots, sittings, washings, hours, and what is said. */
public final class EdgesOfHoursTest {
    private static final String[] LAWS = {"keeps", "passes", "washes", "fades"};
    /** The greatest int and the least one, by numbers of four digits. */
    private static final String GREATEST = "(8*8*8*8*8*8*8*8*8*8*2-1)";
    private static final String LEAST = "(8*8*8*8*8*8*8*8*8*8*2)";

    private EdgesOfHoursTest() {
    }

    public static void main(String[] args) {
        hourOfTheDay();
        firstIfThatHolds();
        elseTheLast();
        wraps();
        roundsTowardsZero();
        dividedByZero();
        variables();
        keepsIsHeld();
        passesAndWashesAreHeld();
        fadesIsHeld();
        lots();
        sittingByHowItWas();
        starchedSitting();
        satOnceMore();
        washingByHowItWas();
        starchedNoMore();
        visitsInOrder();
        mothOrNot();
        mothOfWhichChair();
        mothIntoTheSuds();
        fadesBehindVisits();
        mondays();
        theNextHour();
        says();
        changedSquares();
        Checks.end("EdgesOfHoursTest");
    }

    private static void hourOfTheDay() {
        Edges.terms("HOURS are counted on; the hour of the day: its rest by 24.");
        HeadCloths x = Edges.of("chair c 0;head h 0 90 0 0 0;visit h c 0;visit h c 23;keeps=1;passes=0;");
        int[][] rows = {{0, 0, 0, 0}, {1, 1, 1, 1}, {22, 23, 23, 1}, {1, 24, 0, 2}, {1, 25, 1, 3}, {22, 47, 23, 3}, {1, 48, 0, 4}, {72, 120, 0, 10}};
        for (int[] row : rows) {
            Edges.due("hours(" + row[0] + ")", row[1], x.hours(row[0]));
            Edges.due("count(3)", row[1], x.count(3));
            Edges.due("count(4)", row[2], x.count(4));
            Edges.due("visits so far", row[3], x.count(16));
        }
        // as far as calls can go: it is counted on, not by days or weeks
        x = Edges.of("chair c 0;");
        for (int i = 1; i <= 500; i++) {
            Edges.due("hours(72)", 72 * i, x.hours(72));
        }
        Edges.due("count(3)", 36000, x.count(3));
        Edges.due("count(4)", 0, x.count(4));
    }

    private static HeadCloths withKeeps(String law) {
        return Edges.of("chair c 5;head h 2 90 80 0 0;keeps=" + law + ";");
    }

    private static void law(String law, int told) {
        Edges.due("keeps=" + law, told, withKeeps(law).tells(0, 0, 0, 0));
    }

    private static void firstIfThatHolds() {
        Edges.terms("LAWS: the E of the first if that holds (one less than the other)");
        law("if 1<2then 3else 4", 3);
        law("if 2<2then 3else 4", 4);
        law("if 3<2then 3else 4", 4);
        law("if 0-1<0then 3else 4", 3);
        law("if 0<0-1then 3else 4", 4);
        law("if 1<2then 3else if 1<2then 5else 4", 3);
        law("if 2<2then 3else if 1<2then 5else 4", 5);
        law("if 2<1then 3else if 2<1then 5else if 2<1then 6else if 1<2then 7else 8", 7);
        law("if mesh<oil then 3else if oil<mesh then 6else 7", 6);
        law("if " + LEAST + "<" + GREATEST + "then 3else 4", 3);
        law("if " + GREATEST + "<" + LEAST + "then 3else 4", 4);
    }

    private static void elseTheLast() {
        Edges.terms("else the last one; ints of 32 bits");
        law("7", 7);
        law("if 2<1then 3else 9", 9);
        law("if 2<1then 3else if 2<1then 5else if 2<1then 6else if 2<1then 7else 8", 8);
    }

    private static void wraps() {
        Edges.terms("ints of 32 bits that wrap");
        law("4096*4096*256+7", 7);
        law("if 4096*4096*128<0then 3else 4", 3);
        law("if 4096*4096*64<0then 3else 4", 4);
        law("if " + GREATEST + "+1<0then 3else 4", 3);
        law("if " + GREATEST + "<0then 3else 4", 4);
        law("if 0<" + LEAST + "-1then 3else 4", 3);
        law("if 0<" + LEAST + "then 3else 4", 4);
        law("if 0<0-" + LEAST + "then 3else if 0-" + LEAST + "<0then 5else 6", 5);
        // 9999 * 9999 * 22 is 2199560022, which is -2095407274
        law("if 9999*9999*22<0then 3else 4", 3);
        law("if 9999*9999*21<0then 3else 4", 4);
        int fourth = BigInteger.valueOf(9999).pow(4).intValue();
        law("if 9999*9999*9999*9999<0then 3else 4", fourth < 0 ? 3 : 4);
        law("9999*9999*9999*9999-9999*9999*9999*9999+5", 5);
        // what wrapped is not brought back by a division: it is -1027349969
        law("9999*9999*9999/9999/9999+50", 40);
    }

    private static void roundsTowardsZero() {
        Edges.terms("/ rounded towards 0");
        law("7/2", 3);
        law("1/2+5", 5);
        law("(0-1)/2+5", 5);
        law("(0-7)/2+10", 7);
        law("7/(0-2)+10", 7);
        law("(0-7)/(0-2)+10", 13);
        law("(0-8)/2+10", 6);
        law("9/9", 1);
        law("0/9+2", 2);
        law("if " + LEAST + "/(0-1)<0then 3else 4", 3);
        law("if " + LEAST + "/(0-1)-1<0then 3else 4", 4);
    }

    private static void dividedByZero() {
        Edges.terms("a LAW in which something that is looked at is divided by 0 is 0");
        for (String law : new String[] {"9/0", "0/0", "9+1/0", "1/0+9", "9-1/0", "9*(1/0)", "0*(1/0)", "1/0*0", "(1/0)/9", "9+0/(3-3)", "own/cloth+9",
            "9/(1/2)", "if 1/0<5then 3else 4", "if 5<1/0then 3else 4", "if 1/0<1/0then 3else 4", "if 1<2then 9/0else 4", "if 2<1then 3else 9/0",
            "if 2<1then 3else if 1/0<1then 5else 6", "if 2<1then 3else if 2<1then 5else 6/0", "((((((9/0))))))"}) {
            law(law, 0);
        }
        // not looked at
        law("if 1<2then 3else 9/0", 3);
        law("if 2<1then 9/0else 4", 4);
        law("if 1<2then 3else if 1/0<1then 5else 6", 3);
        law("if 2<1then 1/0else if 1<2then 5else 1/0", 5);
        law("if 2<1then 1/0else if 2<1then 1/0else 8", 8);
        for (int law = 0; law < 4; law++) {
            HeadCloths x = Edges.of("chair c 5;head h 2 90 80 0 0;keeps=20;" + LAWS[law] + "=9/(thought-1)+50;");
            HeadCloths y = Edges.of("chair c 5;head h 2 90 80 0 0;keeps=20;");
            y.sit(0, 0);
            if (law != 0) {
                x.sit(0, 0);
            }
            Edges.due(LAWS[law] + ", 9/0", 0, x.tells(0, 0, 1, law));
            int most = law == 0 ? 90 : law == 3 ? 70 : y.chair(0, 0);
            Edges.due(LAWS[law] + ", 9/-1", Math.min(most, 41), x.tells(0, 0, 0, law));
        }
    }

    /** A house in which no two variables are alike, asked in hour 5: each law tells 3 if the variable is as it should be. */
    private static void variables() {
        String[] told = {"mesh of FADES 0", "oil (WASHES: 0)", "thought: its number 0 .. 3",
            "cloth: how much of it is in the square (FADES: 0)", "own: how much of it the HEAD has (WASHES: 0)", "hour: of the day",
            "sat: how often any sat in the CHAIR so far (FADES: how often that HEAD sat anywhere)",
            "which: the HEAD's number (WASHES: the CHAIR's)",
            "all: how much of all THOUGHTS together is in the square (FADES: in the HEAD)"};
        int[][] values = {{8, 8, 8, 0}, {7, 7, 0, 7}, {3, 3, 3, 3}, {12, 12, 12, 0}, {78, 78, 0, 78}, {5, 5, 5, 5}, {4, 4, 4, 6}, {2, 2, 1, 2},
            {48, 48, 48, 318}};
        for (int which = 0; which < 9; which++) {
            Edges.terms(told[which]);
            for (int law = 0; law < 4; law++) {
                variable(Model.VARS.get(which), values[which][law], law);
            }
        }
    }

    private static void variable(String name, int value, int law) {
        String[] first = {"3", "0", "0", "0"};
        String asked = "if hour<5then " + first[law] + " else if " + name + "<" + value + " then 1else if " + value + "<" + name + " then 2else 3";
        HeadCloths x = Edges.of("chair p 1;chair q 8;head m 2 90 80 70 60;head n 3 99 98 97 96;head o 7 99 98 97 96;keeps=3;passes=0;"
            + LAWS[law] + "=" + asked + ";");
        int[][] sittings = {{0, 1}, {0, 1}, {1, 1}, {2, 1}, {2, 0}, {2, 0}, {2, 0}, {2, 0}, {2, 0}};
        for (int[] one : sittings) {
            x.sit(one[0], one[1]);
        }
        x.hours(5);
        // what was told of others ahead of it changes nothing
        for (int other = 0; other < 4; other++) {
            x.tells(0, 0, 1, other);
            x.tells(0, 1, 0, 3 - other);
        }
        Edges.due(LAWS[law] + "=" + asked, 3, x.tells(law == 3 ? 99 : 1, law == 2 ? 99 : 2, 3, law));
    }

    private static void held(String word, int law, int own, int cloth, int most) {
        String[] asked = {"0-1", "0", "1", most - 1 + "", most + "", most + 1 + "", "9999", "0-9999", LEAST, GREATEST};
        int[] due = {0, 0, 1, most - 1, most, most, most, 0, 0, most};
        for (int i = 0; i < asked.length; i++) {
            String law0 = "if which<1then " + cloth + " else ";
            HeadCloths x = Edges.of("chair c 0;head g 0 50 50 50 50;head h 0 " + own + " 0 0 0;keeps=" + law0 + "0;passes=0;"
                + word + "=" + (law == 0 ? law0 : "") + asked[i] + ";");
            x.sit(0, 0);
            Edges.due(word + "=" + asked[i], due[i], x.tells(0, 1, 0, law));
            if (law == 0 || law == 3) {
                Edges.due(word + "=" + asked[i] + ", of nothing", 0, x.tells(0, 1, 1, law));
            }
        }
    }

    private static void keepsIsHeld() {
        Edges.terms("KEEPS, held to 0 .. own");
        held("keeps", 0, 40, 7, 40);
        HeadCloths x = Edges.of("chair c 0;head h 0 40 3 0 99;keeps=9999;passes=0-1;");
        x.sit(0, 0);
        Edges.owns("all there is goes", x, 0, 0, 0, 0, 0);
        Edges.squares("all there is goes", x, 0, 40, 3, 0, 99);
        x = Edges.of("chair c 0;head h 0 40 3 0 99;keeps=0-9999;");
        x.sit(0, 0);
        Edges.owns("nothing comes out of below 0", x, 0, 40, 3, 0, 99);
    }

    private static void passesAndWashesAreHeld() {
        Edges.terms("PASSES, WASHES, held to 0 .. cloth");
        held("passes", 1, 40, 7, 7);
        held("washes", 2, 40, 7, 7);
        HeadCloths x = Edges.of("chair c 0;head h 0 40 3 0 99;keeps=if sat<1then 5else 0;passes=9999;washes=9999;");
        x.sit(0, 0);
        Edges.squares("5 of each", x, 0, 5, 3, 0, 5);
        x.sit(0, 0);
        Edges.squares("all of it is passed on", x, 0, 0, 0, 0, 0);
        Edges.owns("all of it is passed on", x, 0, 40, 3, 0, 99);
        x.undo();
        Edges.due("wash(0)", 13, x.wash(0));
        Edges.due("wash(0) of nothing", 0, x.wash(0));
        Edges.due("count(5)", 13, x.count(5));
        x = Edges.of("chair c 0;head h 0 40 3 0 99;keeps=5;passes=0-9;washes=0-9;");
        x.sit(0, 0);
        x.sit(0, 0);
        Edges.due("nothing is washed by below 0", 0, x.wash(0));
        Edges.squares("nothing is passed on by below 0", x, 0, 10, 3, 0, 10);
    }

    private static void fadesIsHeld() {
        Edges.terms("FADES, held to 0 .. own");
        held("fades", 3, 40, 7, 40);
        HeadCloths x = Edges.of("head h 0 40 3 0 99;fades=9999;");
        x.hours(1);
        Edges.owns("all there is", x, 0, 0, 0, 0, 0);
        Edges.due("count(5)", 142, x.count(5));
        x.hours(1);
        Edges.due("count(5), nothing is left", 142, x.count(5));
        x = Edges.of("head h 0 40 3 0 99;fades=0-9999;");
        x.hours(72);
        Edges.owns("nothing comes of below 0", x, 0, 40, 3, 0, 99);
        Edges.due("count(5)", 0, x.count(5));
    }

    /** The words of the document with numbers that are cut to 32 bits by hand. */
    private static int lot(int n, int seed, int which) {
        BigInteger bits = BigInteger.ONE.shiftLeft(32);
        BigInteger h = BigInteger.valueOf(seed);
        for (int it : new int[] {153, which}) {
            h = h.xor(BigInteger.valueOf(it)).multiply(BigInteger.valueOf(1103515245)).add(BigInteger.valueOf(12345)).mod(bits);
            h = h.xor(h.shiftRight(15));
        }
        return h.shiftRight(1).mod(BigInteger.valueOf(n)).intValue();
    }

    private static void lots() {
        Edges.terms("then h and h moved 15 bits down (zeros come in), likewise; the rest of h, moved 1 bit down likewise, by n (32 bits that wrap)");
        for (int seed = 0; seed <= 9999; seed += seed < 9980 ? 13 : 1) {
            int lot = lot(100, seed, 0);
            Edges.due("seed " + seed + ", moth " + lot, 0, Edges.of("moth " + lot + ";seed " + seed + ";").count(12));
            Edges.due("seed " + seed + ", moth " + (lot + 1), 1, Edges.of("moth " + (lot + 1) + ";seed " + seed + ";").count(12));
        }
        HeadCloths x = Edges.of("moth 50;seed 77;");
        for (int i = 0; i < 250; i++) {
            int hour = x.count(3);
            Edges.due("hour " + hour, lot(100, 77, 8 * hour) < 50 ? 1 : 0, x.count(12));
            x.hours(i < 100 ? 1 : 71);
        }
    }

    private static void sittingByHowItWas() {
        Edges.terms("A SITTING of a HEAD in a CHAIR, of each THOUGHT, all by how it was ahead of it");
        HeadCloths x = Edges.of("chair c 0;head h 0 40 30 20 10;keeps=all+1;passes=0;");
        x.sit(0, 0);
        Edges.squares("all was 0", x, 0, 1, 1, 1, 1);
        x.sit(0, 0);
        Edges.squares("all was 4", x, 0, 6, 6, 6, 6);
        x = Edges.of("chair c 0;head h 0 40 30 20 10;keeps=own;passes=cloth;");
        x.sit(0, 0);
        Edges.squares("what is kept is not passed on at once", x, 0, 40, 30, 20, 10);
        x.sit(0, 0);
        Edges.owns("what is passed on is not kept at once", x, 0, 40, 30, 20, 10);
        x = Edges.of("chair c 0;head h 0 40 30 20 10;keeps=sat+1;passes=sat;");
        x.sit(0, 0);
        Edges.squares("sat was 0", x, 0, 1, 1, 1, 1);
        x.sit(0, 0);
        Edges.squares("sat was 1", x, 0, 2, 2, 2, 2);
    }

    private static void starchedSitting() {
        Edges.terms("what PASSES tells from the square into the HEAD; not if it is STARCHED.");
        HeadCloths x = Edges.of("chair c 0;chair d 0;head h 0 40 30 20 10;keeps=7;passes=3;visit h c 0;");
        x.sit(0, 0);
        x.starch(0);
        x.sit(0, 0);
        Edges.squares("by hand", x, 0, 7, 7, 7, 7);
        Edges.owns("by hand", x, 0, 33, 23, 13, 3);
        x.hours(1);
        Edges.squares("by a visit", x, 0, 7, 7, 7, 7);
        x.sit(0, 1);
        Edges.squares("in the other, which is not", x, 1, 7, 7, 7, 3);
        x.change(0, 1);
        x.sit(0, 0);
        Edges.squares("the starched square is in the other", x, 0, 11, 11, 10, 0);
    }

    private static void satOnceMore() {
        Edges.terms("It sat once more.");
        HeadCloths x = Edges.of("chair c 0;chair d 0;head h 0 0 0 0 0;head i 0 0 0 0 0;visit i d 0;");
        x.sit(0, 0);
        x.starch(0);
        x.sit(0, 0);
        x.sit(0, 1);
        x.hours(1);
        Edges.due("head(0, 6)", 3, x.head(0, 6));
        Edges.due("head(1, 6)", 1, x.head(1, 6));
        Edges.due("chair(0, 6)", 2, x.chair(0, 6));
        Edges.due("chair(1, 6)", 2, x.chair(1, 6));
        Edges.due("count(16)", 4, x.count(16));
    }

    private static void washingByHowItWas() {
        Edges.terms("A WASHING of a CHAIR, of each THOUGHT, likewise: what WASHES tells goes from the square into the SUDS");
        HeadCloths x = Edges.of("chair c 0;head h 0 40 30 20 10;keeps=8;washes=all/8;");
        x.sit(0, 0);
        Edges.due("wash(0): 32 / 8 of each", 16, x.wash(0));
        Edges.squares("all by how it was", x, 0, 4, 4, 4, 4);
        Edges.due("wash(0): 16 / 8 of each", 8, x.wash(0));
        Edges.due("count(5)", 24, x.count(5));
        Edges.owns("heads are not washed", x, 0, 32, 22, 12, 2);
    }

    private static void starchedNoMore() {
        Edges.terms("it is STARCHED no more.");
        HeadCloths x = Edges.of("chair c 0;chair d 0;head h 0 40 0 0 0;washes=0;monday 1;");
        x.starch(0);
        x.starch(1);
        Edges.due("wash(0)", 0, x.wash(0));
        Edges.due("count(7)", 2, x.count(7));
        Edges.due("starch(0), once more", true, x.starch(0));
        x.hours(23);
        Edges.due("count(7)", 3, x.count(7));
        x.hours(1);
        Edges.due("count(7), behind monday", 0, x.count(7));
    }

    private static void visitsInOrder() {
        Edges.terms("VISITS of the hour of the day, in order, are SITTINGS, one behind the other");
        String house = "chair c 0;head g 0 20 0 0 0;head h 0 0 0 0 0;keeps=own;passes=cloth;";
        HeadCloths x = Edges.of(house + "visit g c 0;visit h c 0;");
        x.hours(1);
        Edges.due("g ahead of h", 20, x.head(1, 0));
        x = Edges.of(house + "visit h c 0;visit g c 0;");
        x.hours(1);
        Edges.due("h ahead of g", 0, x.head(1, 0));
        Edges.due("h ahead of g", 20, x.chair(0, 0));
        x = Edges.of(house + "visit g c 0;visit h c 1;visit h c 23;");
        x.hours(1);
        Edges.due("of this hour alone", 1, x.count(16));
        x.hours(22);
        Edges.due("not yet", 2, x.count(16));
        x.hours(1);
        Edges.due("the last of the day", 3, x.count(16));
        x.keep(0, false);
        x.hours(1);
        Edges.due("given up", 3, x.count(16));
        x = Edges.of(house + "visit g c 5;".repeat(10));
        x.hours(5);
        Edges.due("none", 0, x.count(16));
        x.hours(1);
        Edges.due("ten of one hour", 10, x.count(16));
    }

    private static void mothOrNot() {
        Edges.terms("if there is a MOTH (LOT 100 of the SEED and 8 * the hour, counted on, is less than that)");
        String house = "chair c 0;head h 0 99 99 99 99;keeps=3;passes=0;seed 5;";
        for (int gone : new int[] {0, 1, 23, 24, 71}) {
            int lot = lot(100, 5, 8 * gone);
            for (int moth : new int[] {0, lot, lot + 1, 100}) {
                HeadCloths x = Edges.of(house + "moth " + moth + ";");
                x.hours(gone);
                x.sit(0, 0);
                boolean here = lot < moth;
                Edges.due("count(12), hour " + gone + ", moth " + moth, here ? 1 : 0, x.count(12));
                x.hours(1);
                Edges.due("count(15), hour " + gone + ", moth " + moth, here ? 1 : 0, x.count(15));
            }
        }
    }

    private static void mothOfWhichChair() {
        Edges.terms("of the CHAIR LOT of how many CHAIRS there are of the SEED and 8 * the hour and 1 all THOUGHTS are gone");
        String[] names = {"a", "b", "c", "d"};
        for (int chairs = 1; chairs <= 4; chairs++) {
            String house = "head h 0 99 99 99 99;keeps=1;passes=0;moth 100;";
            for (int chair = 0; chair < chairs; chair++) {
                house += "chair " + names[chair] + " 0;";
            }
            for (int seed : new int[] {0, 1, 4, 17, 5000, 9999}) {
                HeadCloths x = Edges.of(house + "seed " + seed + ";");
                for (int hour = 0; hour < 6; hour++) {
                    for (int chair = 0; chair < chairs; chair++) {
                        x.sit(0, chair);
                    }
                    x.hours(1);
                    Edges.due(chairs + " chairs, seed " + seed + ", hour " + hour, 1 << lot(chairs, seed, 8 * hour + 1), x.count(15));
                }
            }
        }
        // LOT 4 of seed 7 and 1 is 2, of 7 and 9 it is 0
        HeadCloths y = Edges.of("chair a 0;chair b 0;chair c 0;chair d 0;head h 0 99 99 99 99;keeps=4;passes=0;moth 100;seed 7;");
        for (int chair = 0; chair < 4; chair++) {
            y.sit(0, chair);
        }
        y.hours(2);
        for (int chair = 0; chair < 4; chair++) {
            int left = chair == 2 || chair == 0 ? 0 : 4;
            Edges.squares("the others are as they were", y, chair, left, left, left, left);
        }
        Edges.due("count(5)", 32, y.count(5));
        HeadCloths x = Edges.of("head h 0 99 99 99 99;moth 100;");
        Edges.due("no chairs: hours(72)", 72, x.hours(72));
        Edges.due("no chairs: count(5)", 0, x.count(5));
        Edges.due("no chairs: count(6)", 396, x.count(6));
    }

    private static void mothIntoTheSuds() {
        Edges.terms("all THOUGHTS are gone (into the SUDS)");
        HeadCloths x = Edges.of("chair c 0;head h 0 40 30 20 10;visit h c 0;keeps=if thought<2then 9else 0;passes=0;washes=0;moth 100;");
        x.starch(0);
        x.undo();
        x.hours(1);
        Edges.squares("what came in that hour too", x, 0, 0, 0, 0, 0);
        Edges.due("count(5)", 18, x.count(5));
        Edges.due("count(6)", 82, x.count(6));
        x.sit(0, 0);
        x.starch(0);
        x.hours(1);
        Edges.due("starched: count(5)", 36, x.count(5));
        Edges.due("starched as it was", 1, x.count(7));
        x.hours(1);
        Edges.due("an empty square: count(5)", 36, x.count(5));
    }

    private static void fadesBehindVisits() {
        Edges.terms("then of each HEAD and THOUGHT what FADES tells goes into the SUDS, all by how it was behind the VISITS");
        HeadCloths x = Edges.of("chair c 0;head g 3 20 9 0 7;head h 0 60 0 0 0;visit g c 0;keeps=2;passes=0;fades=all/10+sat+hour;");
        x.hours(1);
        // behind the visit g has 18 7 0 5, which is 30, and sat once; h has 60
        Edges.owns("4 of each", x, 0, 14, 3, 0, 1);
        Edges.owns("6 of each", x, 1, 54, 0, 0, 0);
        Edges.due("count(5)", 4 + 4 + 4 + 6, x.count(5));
        x.hours(1);
        Edges.owns("18 / 10 + 1 + 1", x, 0, 11, 0, 0, 0);
        Edges.owns("54 / 10 + 0 + 1", x, 1, 48, 0, 0, 0);
    }

    private static void mondays() {
        Edges.terms("MONDAY being n, if n is more than 0 and this was hour 23 of a day whose number and 1 is a multiple of n, all CHAIRS are washed");
        for (int n : new int[] {0, 1, 2, 3, 7}) {
            HeadCloths x = Edges.of("chair a 0;chair b 0;chair c 0;chair d 0;head h 0 99 0 0 0;keeps=1;passes=0;washes=hour/23;monday " + n + ";");
            for (int day = 0; day < 15; day++) {
                for (int chair = 0; chair < 4; chair++) {
                    x.sit(0, chair);
                    x.starch(chair);
                }
                x.hours(22);
                Edges.due("monday " + n + ", day " + day + ", hour 22", 15, x.count(7));
                x.hours(1);
                Edges.due("monday " + n + ", day " + day + ", hour 23", 15, x.count(7));
                int suds = x.count(5);
                x.hours(1);
                boolean washed = n > 0 && (day + 1) % n == 0;
                Edges.due("monday " + n + ", behind day " + day, washed ? 0 : 15, x.count(7));
                // hour / 23 is 1 in that hour alone
                Edges.due("monday " + n + ", suds behind day " + day, washed ? suds + x.count(0) : suds, x.count(5));
            }
        }
    }

    private static void theNextHour() {
        Edges.terms("It is the next hour.");
        HeadCloths x = Edges.of("chair c 0;head h 0 99 0 0 0;fades=if hour<1then 1else if 22<hour then 5else 0;");
        x.hours(1);
        Edges.due("it was hour 0", 98, x.head(0, 0));
        x.hours(22);
        Edges.due("hours 1 to 22", 98, x.head(0, 0));
        x.hours(1);
        Edges.due("it was hour 23", 93, x.head(0, 0));
        x.hours(1);
        Edges.due("it was hour 24", 92, x.head(0, 0));
        Edges.due("count(3)", 25, x.count(3));
    }

    private static void says() {
        Edges.terms("A HEAD SAYS a THOUGHT of which it has SAYS or more.");
        for (int says : new int[] {1, 2, 50, 98, 99, 100, 999}) {
            HeadCloths x = Edges.of("head h 0 " + Math.min(99, says - 1) + " " + Math.min(99, says) + " " + Math.min(99, says + 1) + " 0;says " + says
                + ";");
            int bits = 0;
            for (int t = 0; t < 4; t++) {
                bits |= x.head(0, t) >= says ? 1 << t : 0;
            }
            Edges.due("says " + says, bits, x.head(0, 5));
            Edges.due("says " + says, says <= 99 ? 6 : 0, x.head(0, 5));
            Edges.due("count(13), says " + says, says <= 99 ? 1 : 0, x.count(13));
        }
        // more than 99 can come together: 99 of each of two
        HeadCloths x = Edges.of("chair c 0;head g 0 99 0 0 0;head h 0 99 0 0 0;keeps=if which<1then own else 0;passes=cloth*which;says 198;");
        x.sit(0, 0);
        Edges.due("nobody yet", 0, x.count(13));
        x.sit(1, 0);
        Edges.due("198", 2, x.count(13));
    }

    private static void changedSquares() {
        Edges.terms("two CHAIRS change squares (what is in them, STARCHED or not)");
        for (int starched = 0; starched < 4; starched++) {
            HeadCloths x = Edges.of("chair c 3;chair d 4;chair e 5;head h 0 40 30 0 10;keeps=mesh;passes=0;");
            x.sit(0, 0);
            x.sit(0, 1);
            x.sit(0, 1);
            for (int chair = 0; chair < 2; chair++) {
                if ((starched >> chair & 1) != 0) {
                    x.starch(chair);
                }
            }
            Edges.due("change(0, 1)", true, x.change(0, 1));
            Edges.squares("changed", x, 0, 8, 8, 0, 7);
            Edges.squares("changed", x, 1, 3, 3, 0, 3);
            Edges.due("count(7), " + starched, (starched & 1) << 1 | starched >> 1, x.count(7));
            Edges.due("the mesh stays", 3, x.chair(0, 4));
            Edges.due("how often any sat there stays", 1, x.chair(0, 6));
            Edges.due("how often any sat there stays", 2, x.chair(1, 6));
            Edges.due("the third is not changed", 4, x.count(15));
        }
    }
}
