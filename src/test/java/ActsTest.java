/** Promises 25 to 33: YEARS, ACTS, the seed, what is KEPT, and what is undone. */
public final class ActsTest {
    private static final String TOWN = "place a;place b;place c;place d;street a to b paces 3;street b to c paces 2;street c to a paces 4;"
        + "step a for 1;step b for 2;step c for 3;step b for 4;thing t at a pull 2;thing u at c pull 1;";

    public static void main(String[] args) {
        years();
        chance();
        shut();
        move();
        teach();
        forget();
        undo();
        undoOfKept();
        seed();
        kept();
        Bench.finish();
    }

    private static void years() {
        GreyRoute x = Bench.made(TOWN + "stands told+year;clever year=1;");
        Bench.due("years(0)", x.years(0), -1);
        Bench.due("years(-1)", x.years(-1), -1);
        Bench.due("years(41)", x.years(41), -1);
        Bench.due("status(2)", x.status(2), 3);
        Bench.due("has(3)", x.has(3), 0);
        Bench.due("has(8)", x.has(8), 0);
        // 7 paces each; 10, 14 minutes; then a b: 3 paces, 5 + 4
        Bench.due("years(3)", x.years(3), 17 + 21 + 12);
        Bench.due("has(3)", x.has(3), 3);
        Bench.due("has(8), one ACT", x.has(8), 1);
        Bench.due("has(9), no DRAW", x.has(9), 1);
        Bench.dueText("the ROUTE", Bench.route(x), "0:1 1:4");
        GreyRoute y = new GreyRoute();
        for (int i = 0; i < 24; i++) {
            Bench.due("years(40)", y.years(40), 0);
        }
        Bench.due("years(40), beyond 999", y.years(40), -1);
        Bench.due("years(39), up to 999", y.years(39), 0);
        Bench.due("has(3)", y.has(3), 999);
        Bench.due("years(1), beyond 999", y.years(1), -1);
        Bench.due("chance(1), beyond 999", y.chance(1), -1);
        Bench.due("status(2)", y.status(2), 3);
        Bench.due("years(2147483647)", y.years(Integer.MAX_VALUE), -1);
        Bench.due("undo()", y.undo(), true);
        Bench.due("has(3)", y.has(3), 960);
        Bench.due("chance(39), up to 999", y.chance(39), 0);
        Bench.due("chance(-2147483648)", y.chance(Integer.MIN_VALUE), -1);
    }

    private static int next(long x) {
        return (int) ((1103515245L * x + 12345L) % (1L << 31));
    }

    private static void chance() {
        GreyRoute x = Bench.made(TOWN + "hot 50;heat 9;stands heat;");
        Bench.due("chance(0)", x.chance(0), -1);
        Bench.due("chance(41)", x.chance(41), -1);
        Bench.due("status(2)", x.status(2), 2);
        Bench.due("has(9)", x.has(9), 1);
        for (int seed : new int[] {0, 1, 2, 12345, 2147483647}) {
            x.seed(seed);
            int hots = 0;
            int s = seed;
            int[] heats = new int[20];
            for (int i = 0; i < 20; i++) {
                s = next(s);
                heats[i] = 9;
                if (s / 64 % 100 < 50) {
                    s = next(s);
                    heats[i] = s / 64 % 41;
                    hots++;
                }
            }
            int acts = x.has(8);
            Bench.due("chance(20) of " + seed, x.chance(20), hots);
            Bench.due("has(9)", x.has(9), s);
            Bench.due("has(8), one ACT", x.has(8), acts + 1);
            int told = x.has(6);
            for (int i = 0; i < 20; i++) {
                Bench.due("kept(" + i + ", 2) of " + seed, x.kept(told - 20 + i, 2), 7 + 4 * heats[i]);
            }
            Bench.due("this YEAR is as told", x.year(2), 36);
        }
        GreyRoute never = Bench.made(TOWN + "hot 0;");
        Bench.due("chance(40), never", never.chance(40), 0);
        GreyRoute always = Bench.made(TOWN + "hot 1;hot 100;");
        Bench.due("chance(40), always", always.chance(40), 40);
        GreyRoute without = Bench.made(TOWN);
        Bench.due("chance(40), hot not told", without.chance(40), 0);
        int least = 0;
        while (next(least) / 64 % 100 != 0) {
            least++;
        }
        GreyRoute cold = Bench.made(TOWN);
        cold.seed(least);
        Bench.due("chance(1), a DRAW of 0, hot not told", cold.chance(1), 0);
        GreyRoute mild = Bench.made(TOWN + "hot 1;");
        mild.seed(least);
        Bench.due("chance(1), a DRAW of 0, hot 1", mild.chance(1), 1);
        int s = 1;
        for (int i = 0; i < 40; i++) {
            s = next(s);
        }
        Bench.due("has(9), a DRAW each", without.has(9), s);
        // clever asks how hot it is in that YEAR
        GreyRoute mare = Bench.made(TOWN + "hot 100;heat 9;clever heat=" + next(next(1)) / 64 % 41 + ";");
        mare.chance(1);
        Bench.due("has(4)", mare.has(4), 2);
    }

    private static void shut() {
        GreyRoute x = Bench.made(TOWN);
        Bench.due("shut(0, 0)", x.shut(0, 0), false);
        Bench.due("shut(0, 2)", x.shut(0, 2), false);
        Bench.due("shut(0, -1)", x.shut(0, -1), false);
        Bench.due("shut(3, 1)", x.shut(3, 1), false);
        Bench.due("shut(-1, 1)", x.shut(-1, 1), false);
        Bench.due("shut(32, 1)", x.shut(32, 1), false);
        Bench.due("status(3)", x.status(3), 6);
        Bench.due("has(8)", x.has(8), 0);
        Bench.due("shut(2, 1)", x.shut(2, 1), true);
        Bench.due("shut(2, 1) again", x.shut(2, 1), false);
        Bench.due("shut(1, 1)", x.shut(1, 1), true);
        Bench.due("has(5)", x.has(5), 2);
        Bench.due("shut(2, 0)", x.shut(2, 0), true);
        Bench.due("has(5)", x.has(5), 1);
        Bench.due("street(1, 3)", x.street(1, 3), 1);
        Bench.due("status(3)", x.status(3), 7);
        Bench.due("has(8)", x.has(8), 3);
    }

    private static void move() {
        GreyRoute x = Bench.made(TOWN);
        Bench.due("move(0, 0)", x.move(0, 0), false);
        Bench.due("move(0, 4)", x.move(0, 4), false);
        Bench.due("move(0, -1)", x.move(0, -1), false);
        Bench.due("move(2, 0)", x.move(2, 0), false);
        Bench.due("move(-1, 0)", x.move(-1, 0), false);
        Bench.due("status(3)", x.status(3), 5);
        Bench.due("move(0, 3)", x.move(0, 3), true);
        Bench.due("thing(0, 0)", x.thing(0, 0), 3);
        Bench.due("move(0, 0)", x.move(0, 0), true);
        Bench.due("has(8)", x.has(8), 2);
    }

    private static void teach() {
        GreyRoute x = Bench.made(TOWN);
        Bench.due("teach(1, 0), where the last one is", x.teach(1, 0), false);
        Bench.due("teach(3, 0), no STREET", x.teach(3, 0), false);
        Bench.due("teach(0, 31)", x.teach(0, 31), false);
        Bench.due("teach(0, -1)", x.teach(0, -1), false);
        Bench.due("teach(4, 0)", x.teach(4, 0), false);
        Bench.due("teach(-1, 0)", x.teach(-1, 0), false);
        Bench.due("status(3)", x.status(3), 6);
        Bench.due("teach(0, 30)", x.teach(0, 30), true);
        x.shut(0, 1);
        Bench.due("teach(1, 0), by a STREET that is SHUT", x.teach(1, 0), true);
        Bench.dueText("the ROUTE", Bench.route(x), "0:1 1:2 2:3 1:4 0:30 1:0");
        for (int i = 6; i < 30; i++) {
            Bench.due("teach() number " + i, x.teach(i % 2, 0), true);
        }
        Bench.due("has(4)", x.has(4), 30);
        Bench.due("teach(0, 0), there are 30", x.teach(0, 0), false);
        Bench.due("status(3)", x.status(3), 7);
        GreyRoute y = Bench.made("place a;place b;");
        Bench.due("teach(1, 5), any PLACE", y.teach(1, 5), true);
        Bench.dueText("the ROUTE", Bench.route(y), "1:5");
        Bench.due("teach(0, 5), no STREET", y.teach(0, 5), false);
    }

    private static void forget() {
        GreyRoute x = Bench.made(TOWN);
        Bench.due("forget()", x.forget(), true);
        Bench.dueText("the ROUTE", Bench.route(x), "0:1 1:2 2:3");
        Bench.due("forget()", x.forget(), true);
        Bench.due("forget()", x.forget(), true);
        Bench.due("forget()", x.forget(), true);
        Bench.due("has(4)", x.has(4), 0);
        Bench.due("forget(), there is none", x.forget(), false);
        Bench.due("status(3)", x.status(3), 1);
        Bench.due("has(8)", x.has(8), 4);
        Bench.due("teach(3, 1)", x.teach(3, 1), true);
        Bench.dueText("the ROUTE", Bench.route(x), "3:1");
    }

    private static String all(GreyRoute x) {
        StringBuilder told = new StringBuilder(Bench.route(x));
        for (int what = 0; what < 7; what++) {
            told.append(' ').append(x.has(what));
        }
        for (int i = 0; i < x.has(1); i++) {
            told.append(" s").append(x.street(i, 3));
        }
        for (int i = 0; i < x.has(2); i++) {
            told.append(" t").append(x.thing(i, 0));
        }
        return told.toString();
    }

    private static void undo() {
        GreyRoute x = Bench.made(TOWN + "clever all;hot 50;");
        Bench.due("undo(), none", x.undo(), false);
        Bench.due("status(4)", x.status(4), 1);
        String[] ahead = new String[6];
        for (int i = 0; i < 6; i++) {
            ahead[i] = all(x);
            Bench.due("ACT " + i, act(x, i), true);
        }
        x.seed(4711);
        for (int i = 5; i >= 0; i--) {
            Bench.due("has(8)", x.has(8), i + 1);
            Bench.due("undo() of ACT " + i, x.undo(), true);
            Bench.dueText("all as ahead of ACT " + i, all(x), ahead[i]);
        }
        Bench.due("undo(), none more", x.undo(), false);
        Bench.due("the seed stays", x.has(9), 4711);
        int seed = x.has(9);
        x.chance(3);
        int behind = x.has(9);
        x.undo();
        Bench.due("the seed is not undone", x.has(9), behind);
        Bench.due("the seed was drawn from", seed != behind, true);
        // what is refused is no ACT
        x.years(0);
        x.shut(0, 0);
        x.undo();
        Bench.due("has(8)", x.has(8), 0);
        GreyRoute y = Bench.made(TOWN);
        for (int i = 0; i < 21; i++) {
            y.move(0, 1 + i % 3);
        }
        Bench.due("has(8), 20 at most", y.has(8), 20);
        for (int i = 20; i >= 1; i--) {
            Bench.due("undo()", y.undo(), true);
            Bench.due("thing(0, 0)", y.thing(0, 0), 1 + (i - 1) % 3);
        }
        Bench.due("undo(), the 21st", y.undo(), false);
        Bench.due("thing(0, 0)", y.thing(0, 0), 1);
        y.shut(1, 1);
        Bench.due("has(8)", y.has(8), 1);
        Bench.due("undo()", y.undo(), true);
        Bench.due("has(5)", y.has(5), 0);
    }

    private static boolean act(GreyRoute x, int which) {
        switch (which) {
            case 0: return x.years(2) >= 0;
            case 1: return x.shut(0, 1);
            case 2: return x.move(1, 3);
            case 3: return x.teach(2, 9);
            case 4: return x.chance(2) >= 0;
            default: return x.forget();
        }
    }

    /** What is told no more as KEPT comes back when the ACTS are undone. */
    private static void undoOfKept() {
        GreyRoute x = Bench.made("place a;step a for 0;stands year%50;");
        x.years(30);
        for (int i = 0; i < 20; i++) {
            x.years(40);
        }
        Bench.due("kept(0, 0)", x.kept(0, 0), 790);
        for (int i = 19; i >= 0; i--) {
            x.undo();
            Bench.due("has(6)", x.has(6), i == 0 ? 30 : 40);
            int first = i == 0 ? 0 : 30 + 40 * (i - 1);
            Bench.due("kept(0, 0)", x.kept(0, 0), first);
            Bench.due("kept(0, 2)", x.kept(0, 2), first % 50);
            Bench.due("the last, 0", x.kept(x.has(6) - 1, 0), 29 + 40 * i);
        }
        Bench.due("kept(30, 0)", x.kept(30, 0), -1);
        x.years(5);
        Bench.due("has(6)", x.has(6), 35);
        Bench.due("kept(34, 0)", x.kept(34, 0), 34);
    }

    private static void seed() {
        GreyRoute x = new GreyRoute();
        Bench.due("seed(0)", x.seed(0), true);
        Bench.due("has(9)", x.has(9), 0);
        Bench.due("seed(2147483647)", x.seed(Integer.MAX_VALUE), true);
        Bench.due("seed(-1)", x.seed(-1), false);
        Bench.due("seed(-2147483648)", x.seed(Integer.MIN_VALUE), false);
        Bench.due("has(9)", x.has(9), Integer.MAX_VALUE);
        Bench.due("status(5)", x.status(5), 2);
        Bench.due("has(8), no ACT", x.has(8), 0);
    }

    private static void kept() {
        GreyRoute x = Bench.made(TOWN + "stands told+year;clever year=1;");
        x.years(1);
        x.shut(0, 1);
        x.years(2);
        // a c b c b from YEAR 1 on, in which the LOOP from c to c is left out; then a c b
        int[][] due = {{0, 4, 17}, {1, 5, 4 + 2 * 3 + 10 + 5}, {2, 3, 6 + 8 + 6}};
        Bench.due("has(6)", x.has(6), 3);
        for (int k = 0; k < 3; k++) {
            for (int what = 0; what < 3; what++) {
                Bench.due("kept(" + k + ", " + what + ")", x.kept(k, what), due[k][what]);
            }
        }
        Bench.due("kept(0, 3)", x.kept(0, 3), -1);
        Bench.due("kept(0, -1)", x.kept(0, -1), -1);
        Bench.due("kept(3, 0)", x.kept(3, 0), -1);
        Bench.due("kept(-1, 0)", x.kept(-1, 0), -1);
        x.years(37);
        Bench.due("has(6)", x.has(6), 40);
        Bench.due("kept(0, 0)", x.kept(0, 0), 0);
        x.years(1);
        Bench.due("has(6), 40 at most", x.has(6), 40);
        Bench.due("kept(0, 0), the oldest told", x.kept(0, 0), 1);
        Bench.due("kept(39, 0)", x.kept(39, 0), 40);
        Bench.due("kept(40, 0)", x.kept(40, 0), -1);
    }
}
