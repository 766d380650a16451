/** Promises 18 to 20: YEARS AHEAD, LOOPS left out, and the ROUTE that is HELD. */
public final class AheadTest {
    private static final String TRIANGLE = "place a;place b;place c;street a to b paces 1;street b to c paces 2;street c to a paces 4;";

    public static void main(String[] args) {
        later();
        loops();
        missed();
        held();
        yearsAhead();
        Bench.finish();
    }

    private static void later() {
        GreyRoute x = Bench.made(TRIANGLE + "step a for 1;step b for 2;step a for 3;step c for 4;step a for 5;clever year>0;stands told+year;");
        int[][] due = {{5, 10 + 15}, {5, 10 + 20}, {3, 8 + 12 + 6}, {1, 5 + 3}, {1, 5 + 4}};
        for (int n = 0; n < due.length; n++) {
            Bench.due("later(" + n + ", 0)", x.later(n, 0), due[n][0]);
            Bench.due("later(" + n + ", 1)", x.later(n, 1), due[n][1]);
        }
        Bench.due("later(39, 1)", x.later(39, 1), 5 + 39);
        Bench.due("later(40, 1)", x.later(40, 1), -1);
        Bench.due("later(-1, 0)", x.later(-1, 0), -1);
        Bench.due("later(0, 2)", x.later(0, 2), -1);
        Bench.due("later(0, -1)", x.later(0, -1), -1);
        Bench.due("has(3), nothing went by", x.has(3), 0);
        Bench.due("has(4), nothing went by", x.has(4), 5);
        x.years(2);
        Bench.due("later(0, 1) in YEAR 2", x.later(0, 1), 8 + 12 + 6);
        Bench.due("later(1, 1) in YEAR 2", x.later(1, 1), 5 + 3);
        // without DRAWS, so with the heat told
        GreyRoute y = Bench.made("place a;step a for 0;heat 7;hot 100;stands heat;");
        Bench.due("later(3, 1)", y.later(3, 1), 7);
        Bench.due("has(9), no DRAW", y.has(9), 1);
    }

    /** Which STEPS are left out; their minutes tell them apart. */
    private static void loops() {
        GreyRoute x = Bench.made(TRIANGLE + "step b for 1;step a for 2;step c for 3;step a for 4;step b for 5;step c for 6;clever all;");
        x.years(1);
        Bench.dueText("the first LOOP begins at the least STEP", Bench.route(x), "1:5 2:6");
        x = Bench.made(TRIANGLE + "step b for 1;step a for 2;step c for 3;step a for 4;step c for 5;step a for 6;clever all;");
        x.years(1);
        Bench.dueText("it ends at the next one, not at the last", Bench.route(x), "1:1 0:4 2:5 0:6");
        x.years(1);
        Bench.dueText("one a YEAR", Bench.route(x), "1:1 0:6");
        x.years(1);
        Bench.dueText("no LOOP more", Bench.route(x), "1:1 0:6");
        x = Bench.made(TRIANGLE + "step b for 1;step a for 2;step b for 3;");
        x.years(1);
        Bench.dueText("never without clever", Bench.route(x), "1:1 0:2 1:3");
        // what was gone round by makes a LOOP, which is left out in the same YEAR
        x = Bench.made(TRIANGLE + "step a for 1;step b for 2;step c for 3;clever all;");
        x.shut(0, 1);
        Bench.due("year(0)", x.year(0), 4);
        x.years(1);
        Bench.dueText("a, and c twice", Bench.route(x), "0:1 2:3");
    }

    private static void missed() {
        String town = TRIANGLE + "place d;step a for 0;step b for 0;step a for 0;step c for 0;step a for 0;clever year=1 or year=4;";
        GreyRoute x = Bench.made(town);
        Bench.due("missed(0)", x.missed(0), -1);
        Bench.due("missed(1)", x.missed(1), 2);
        Bench.due("missed(2)", x.missed(2), 5);
        Bench.due("missed(3)", x.missed(3), 0);
        Bench.due("missed(4)", x.missed(4), -1);
        Bench.due("missed(-1)", x.missed(-1), -1);
        GreyRoute y = Bench.made(TRIANGLE + "step a for 0;step b for 0;step a for 0;clever year=38;");
        Bench.due("missed(1), in the last", y.missed(1), 39);
        GreyRoute z = Bench.made(TRIANGLE + "step a for 0;step b for 0;step a for 0;clever year=39;");
        Bench.due("missed(1), too late", z.missed(1), -1);
        GreyRoute u = Bench.made(TRIANGLE + "step a for 0;step b for 0;");
        u.shut(0, 1);
        Bench.due("missed(2), gone round by", u.missed(2), -1);
        u.shut(1, 1);
        Bench.due("missed(1), it ends ahead of it", u.missed(1), 0);
        Bench.due("missed(0)", u.missed(0), -1);
        Bench.due("missed(0) without STEPS", Bench.made(TRIANGLE).missed(0), 0);
    }

    private static void held() {
        Bench.due("held() of a new object", new GreyRoute().held(), 0);
        String town = TRIANGLE + "step a for 0;step b for 0;step a for 0;step c for 0;step a for 0;";
        Bench.due("held() without clever", Bench.made(town).held(), 0);
        Bench.due("held(), two YEARS", Bench.made(town + "clever all;").held(), 2);
        Bench.due("held(), though it changes later", Bench.made(town + "clever year>5;").held(), 0);
        GreyRoute x = Bench.made(town + "clever all;");
        x.shut(0, 1);
        // a c b c a c a: a goes c a; c a: a c a: a
        Bench.due("held(), gone round", x.held(), 2);
        GreyRoute y = Bench.made(town);
        y.shut(0, 1);
        Bench.due("held(), gone round, without clever", y.held(), 1);
        // as many STEPS as ahead, but not the same: two by the way round more, two of a LOOP less
        GreyRoute z = Bench.made("place a;place b;place c;place d;street a to b paces 1;street a to d paces 1;street d to c paces 1;"
            + "street c to b paces 1;step a for 0;step d for 0;step a for 0;step b for 0;clever all;");
        z.shut(0, 1);
        Bench.due("held(), as many STEPS", z.held(), 1);
        z.years(1);
        Bench.dueText("the ROUTE behind it", Bench.route(z), "0:0 3:0 2:0 1:0");
        Bench.due("held()", z.held(), 0);
    }

    private static void yearsAhead() {
        GreyRoute x = Bench.made("place a;place b;street a to b paces 1;step a for 0;step b for 0;step a for 0;stands year-950;clever year=999;");
        for (int i = 0; i < 24; i++) {
            x.years(40);
        }
        x.years(35);
        Bench.due("has(3)", x.has(3), 995);
        Bench.due("later(3, 1)", x.later(3, 1), 3 * 48 + 2);
        Bench.due("later(4, 1)", x.later(4, 1), 3 * 49 + 2);
        Bench.due("later(5, 1), 999 at most, a LOOP less", x.later(5, 1), 49);
        Bench.due("later(39, 1), 999 at most", x.later(39, 1), 49);
        Bench.due("missed(1)", x.missed(1), 5);
        Bench.due("held()", x.held(), 0);
        x.years(4);
        Bench.due("held() in YEAR 999", x.held(), 1);
        Bench.due("missed(1) in YEAR 999", x.missed(1), 1);
        Bench.due("years(1) in YEAR 999", x.years(1), -1);
    }
}
