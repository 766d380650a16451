/** Terms III, promises 14 to 24: for each sentence that names an edge a test of its own. */
public final class EdgesOfAskingTest {
    private static final String PAIR = "place a;place b;street a to b paces 1;";
    private static final String TRIANGLE = "place a;place b;place c;street a to b paces 1;street b to c paces 2;street c to a paces 4;";

    public static void main(String[] args) {
        wallOfLikeOnes();
        awayUpTo60();
        awayOfLikeOnes();
        awayAll();
        byTwoAtMost();
        byOfLikeOnes();
        seatsUpTo3();
        seatsOfLikeOnes();
        laterUpTo39();
        missedUpTo39();
        heldAtOnce();
        heldAtTheLatest();
        heldAsTheyAre();
        halfOf20Rows();
        halfOfThisTown();
        filledBy20Steps();
        filledByNone();
        filledUpTo999999999();
        fillingInTheirOrder();
        askedOfLikeOnes();
        askedWithoutAny();
        askedUpTo999999999();
        Bench.finish();
    }

    /** "The WALL is the STEP at which they STAND longest; of like ones the first"; "NONE without STEPS". */
    private static void wallOfLikeOnes() {
        Bench.due("wall() of a new object", new GreyRoute().wall(), -1);
        Bench.due("wall() without STEPS", Bench.made(PAIR).wall(), -1);
        Bench.due("wall() of one STEP", Bench.made(PAIR + "step b for 0;").wall(), 0);
        int[][] due = {{0, 0, 0}, {0, 1, 1}, {1, 0, 0}, {5, 5, 0}, {5, 6, 1}};
        for (int[] d : due) {
            GreyRoute x = Bench.made(PAIR + "step a for " + d[0] + ";step b for " + d[1] + ";");
            Bench.due("wall() of " + d[0] + " and " + d[1], x.wall(), d[2]);
        }
        Bench.due("wall(), above 60 all are like", Bench.made(PAIR + "step a for 1;step b for 2;stands told+60;").wall(), 0);
        Bench.due("wall(), below 0 all are like", Bench.made(PAIR + "step a for 1;step b for 2;stands told-9;").wall(), 0);
        Bench.due("wall(), 60 against 59", Bench.made(PAIR + "step a for 1;step b for 2;stands told+58;").wall(), 1);
        GreyRoute x = Bench.made(PAIR + Texts.steps(20, "a", "b", 1) + "stands step;");
        for (int k = 20; k < 30; k++) {
            x.teach(k % 2, 0);
        }
        Bench.due("wall() is the 30th", x.wall(), 29);
        x.forget();
        Bench.due("wall() is the 29th", x.wall(), 28);
    }

    /** "AWAY, n minutes (0 .. 60), as bits; NONE when .. n can't be". */
    private static void awayUpTo60() {
        GreyRoute x = Bench.made(PAIR + "step a for 0;thing p at a pull 9;stands pull*9;");
        Bench.due("away(60)", x.away(60), 0);
        Bench.due("away(59)", x.away(59), 1);
        Bench.due("away(0)", x.away(0), 1);
        Bench.due("away(-1)", x.away(-1), -1);
        Bench.due("away(61)", x.away(61), -1);
        Bench.due("away(2147483647)", x.away(Integer.MAX_VALUE), -1);
        Bench.due("away(-2147483648)", x.away(Integer.MIN_VALUE), -1);
        GreyRoute still = Bench.made(PAIR + "step a for 0;");
        Bench.due("away(0), they don't STAND", still.away(0), 0);
        Bench.due("away(-1), they don't STAND", still.away(-1), -1);
        Bench.due("away(61), they don't STAND", still.away(61), -1);
        Bench.due("away(0) of a new object", new GreyRoute().away(0), 0);
    }

    /** "AWAY are the fewest THINGS to be taken away ..; of like ones the least bits". */
    private static void awayOfLikeOnes() {
        String town = PAIR + "step a for 0;step b for 0;stands pull;";
        GreyRoute x = Bench.made(town + Texts.things(8, "a", 1));
        for (int n = 0; n <= 8; n++) {
            Bench.due("away(" + n + ") of eight alike", x.away(n), (1 << 8 - n) - 1);
        }
        GreyRoute y = Bench.made(town + "thing p at a pull 1;thing q at a pull 2;thing r at a pull 3;thing s at a pull 4;");
        Bench.due("away(10)", y.away(10), 0);
        Bench.due("away(9), each would do", y.away(9), 1);
        Bench.due("away(8), not the first", y.away(8), 2);
        Bench.due("away(7)", y.away(7), 4);
        Bench.due("away(6), the last alone", y.away(6), 8);
        Bench.due("away(5), two: 1 and 4, 2 and 3", y.away(5), 6);
        Bench.due("away(4), two: 2 and 4", y.away(4), 2 | 8);
        Bench.due("away(3), two: 3 and 4", y.away(3), 4 | 8);
        Bench.due("away(2), three", y.away(2), 1 | 4 | 8);
        Bench.due("away(1), three", y.away(1), 2 | 4 | 8);
        Bench.due("away(0), all", y.away(0), 15);
        // fewer go ahead of lesser bits
        GreyRoute z = Bench.made(town + "thing p at a pull 1;thing q at a pull 1;thing r at a pull 2;");
        Bench.due("away(2), one of 2, not two of 1", z.away(2), 4);
    }

    /** "NONE when all are not enough". */
    private static void awayAll() {
        GreyRoute x = Bench.made(PAIR + "step a for 5;thing p at a pull 2;thing q at b pull 9;stands told+pull;");
        Bench.due("away(7)", x.away(7), 0);
        Bench.due("away(6)", x.away(6), 1);
        Bench.due("away(5)", x.away(5), 1);
        Bench.due("away(4), all are not enough", x.away(4), -1);
        x.forget();
        Bench.due("away(0) without STEPS", x.away(0), 0);
        GreyRoute all = Bench.made(PAIR + "step a for 5;" + Texts.things(8, "a", 9) + "stands told+pull*9;");
        Bench.due("away(5), all eight", all.away(5), 255);
        Bench.due("away(59), all eight: 81 is above 60 still", all.away(59), 255);
        Bench.due("away(60)", all.away(60), 0);
        // moved to where no STEP is, none need be taken away
        x = Bench.made(PAIR + "step a for 5;thing p at a pull 2;stands told+pull;");
        x.move(0, 1);
        Bench.due("away(5), moved", x.away(5), 0);
    }

    /** "BY a PLACE .. by the fewest STREETS SHUT as well (2 at most)"; "NONE when 2 are not enough, or there is none such". */
    private static void byTwoAtMost() {
        String town = Texts.places(6) + "street a to f paces 1;street a to b paces 1;street b to f paces 1;street a to c paces 2;street c to f paces 2;"
            + "street a to d paces 3;street d to f paces 3;step a for 0;step f for 0;";
        GreyRoute x = Bench.made(town);
        Bench.due("by(0), none", x.by(0), 0);
        Bench.due("by(5), none", x.by(5), 0);
        Bench.due("by(1), one", x.by(1), 1);
        Bench.due("by(2), two", x.by(2), 1 | 1 << 1);
        Bench.due("by(3), three would do", x.by(3), -1);
        Bench.due("by(4), no STREET goes there", x.by(4), -1);
        Bench.due("by(6)", x.by(6), -1);
        Bench.due("by(-1)", x.by(-1), -1);
        x.shut(2, 1);
        Bench.due("by(3), one SHUT already", x.by(3), 1 | 1 << 3);
        Bench.due("by(2), one SHUT already", x.by(2), 1);
        Bench.due("by(1), it can't be any more", x.by(1), -1);
        Bench.due("by(0) of a new object", new GreyRoute().by(0), -1);
        Bench.due("by(0) without STEPS", Bench.made(PAIR).by(0), -1);
    }

    /** "of like ones the least bits". */
    private static void byOfLikeOnes() {
        // to c by the STREET from a SHUT (of number 2), or by that from b (of number 1)
        GreyRoute x = Bench.made("place a;place b;place c;place d;street a to c paces 5;street b to d paces 1;street a to b paces 1;street c to b paces 5;"
            + "street c to d paces 5;step a for 0;step b for 0;step d for 0;");
        Bench.due("by(2), two STREETS would do", x.by(2), 1 << 1);
        x.shut(1, 1);
        x.shut(1, 0);
        Bench.due("by(2), as ahead", x.by(2), 1 << 1);
        // two: 0 and 3 (9), or 1 and 2 (6): the least bits, not the least STREET
        GreyRoute y = Bench.made("place a;place b;place c;place d;place e;place f;street a to b paces 1;street d to e paces 1;street d to c paces 1;"
            + "street a to c paces 1;street b to c paces 1;street c to e paces 1;street a to f paces 9;street f to b paces 9;street d to f paces 9;"
            + "street f to e paces 9;step a for 0;step b for 0;step c for 0;step d for 0;step e for 0;");
        Bench.due("by(5)", y.by(5), 1 << 1 | 1 << 2);
        y.shut(1, 1);
        Bench.due("by(5), one SHUT already", y.by(5), 1 << 2);
    }

    /** "SEATS are so many PLACES (1 .. 3)"; "NONE when there are not so many, or for another number". */
    private static void seatsUpTo3() {
        for (int places = 0; places <= 4; places++) {
            GreyRoute x = Bench.made(Texts.places(places));
            for (int many = -1; many <= 5; many++) {
                boolean canBe = many >= 1 && many <= 3 && many <= places;
                Bench.due("seats(" + many + ") of " + places, x.seats(many), canBe ? (1 << many) - 1 : -1);
            }
        }
        GreyRoute x = Bench.made(Texts.places(8));
        Bench.due("seats(4) of 8", x.seats(4), -1);
        Bench.due("seats(8) of 8", x.seats(8), -1);
        Bench.due("seats(2147483647)", x.seats(Integer.MAX_VALUE), -1);
        Bench.due("seats(-2147483648)", x.seats(Integer.MIN_VALUE), -1);
    }

    /** "at which they STAND most in this YEAR, all STEPS together; of like ones the least bits". */
    private static void seatsOfLikeOnes() {
        GreyRoute x = Bench.made(TRIANGLE + "step c for 5;step b for 9;step c for 4;");
        Bench.due("seats(1), 9 and 5 + 4", x.seats(1), 2);
        Bench.due("seats(2)", x.seats(2), 2 | 4);
        Bench.due("seats(3)", x.seats(3), 7);
        x = Bench.made(TRIANGLE + "step c for 5;step b for 9;step c for 5;");
        Bench.due("seats(1), 9 and 5 + 5", x.seats(1), 4);
        x = Bench.made(TRIANGLE + "step c for 5;step b for 0;");
        Bench.due("seats(1)", x.seats(1), 4);
        Bench.due("seats(2), none at a or at b", x.seats(2), 1 | 4);
        GreyRoute y = Bench.made(Texts.places(8) + Texts.wheel(14, 1) + "step h for 1;step g for 2;step f for 3;step e for 4;");
        Bench.due("seats(1), of eight", y.seats(1), 1 << 4);
        Bench.due("seats(2), of eight", y.seats(2), 1 << 4 | 1 << 5);
        Bench.due("seats(3), of eight", y.seats(3), 1 << 4 | 1 << 5 | 1 << 6);
        GreyRoute z = Bench.made(Texts.places(8) + Texts.wheel(14, 1) + "step h for 4;step g for 4;step f for 4;step e for 4;");
        Bench.due("seats(1), four alike", z.seats(1), 1 << 4);
        Bench.due("seats(2), four alike", z.seats(2), 1 << 4 | 1 << 5);
        Bench.due("seats(3), four alike", z.seats(3), 1 << 4 | 1 << 5 | 1 << 6);
    }

    /** "In the n-th YEAR AHEAD (0 .. 39; 0 this one) .. NONE when n can't be, or for others". */
    private static void laterUpTo39() {
        GreyRoute x = Bench.made("place a;step a for 0;stands year;");
        for (int n : new int[] {0, 1, 38, 39}) {
            Bench.due("later(" + n + ", 0)", x.later(n, 0), 1);
            Bench.due("later(" + n + ", 1)", x.later(n, 1), n);
        }
        for (int n : new int[] {-1, 40, 41, Integer.MIN_VALUE, Integer.MAX_VALUE}) {
            Bench.due("later(" + n + ", 0)", x.later(n, 0), -1);
            Bench.due("later(" + n + ", 1)", x.later(n, 1), -1);
        }
        for (int what : new int[] {-1, 2, 3, Integer.MIN_VALUE, Integer.MAX_VALUE}) {
            Bench.due("later(0, " + what + ")", x.later(0, what), -1);
        }
        // "is of the number YEAR + n, 999 at most"
        GreyRoute y = Bench.made("place a;step a for 0;stands year-960;");
        Bench.on(y, Bench.sealed(970 / 256, 970 % 256, 1, 0, 0));
        for (int n : new int[] {0, 1, 28, 29, 30, 39}) {
            Bench.due("later(" + n + ", 1) in 970", y.later(n, 1), Math.min(970 + n, 999) - 960);
        }
    }

    /** "In which YEAR AHEAD (0 .. 39) a PLACE is first on no STEP; NONE when it always is, or there is none such." */
    private static void missedUpTo39() {
        for (int year : new int[] {0, 1, 37, 38, 39, 40}) {
            GreyRoute x = Bench.made(PAIR + "step a for 0;step b for 0;step a for 0;clever year=" + year + ";");
            Bench.due("missed(1), left out in " + year, x.missed(1), year + 1 <= 39 ? year + 1 : -1);
            Bench.due("missed(0), left out in " + year, x.missed(0), -1);
            Bench.due("missed(2)", x.missed(2), -1);
            Bench.due("missed(-1)", x.missed(-1), -1);
        }
        GreyRoute y = Bench.made(PAIR + "step a for 0;");
        Bench.due("missed(1), never there", y.missed(1), 0);
        Bench.due("missed(0), always there", y.missed(0), -1);
        Bench.due("missed(0) without STEPS", Bench.made(PAIR).missed(0), 0);
        Bench.due("missed(0) of a new object", new GreyRoute().missed(0), -1);
        // on a STEP gone round by it is not missed; behind the end of the ROUTE it is
        GreyRoute z = Bench.made(TRIANGLE + "step a for 0;step b for 0;");
        Bench.due("missed(2)", z.missed(2), 0);
        z.shut(0, 1);
        Bench.due("missed(2), gone round by", z.missed(2), -1);
        z.shut(2, 1);
        Bench.due("missed(1), behind the end", z.missed(1), 0);
    }

    /** "HELD: behind how many YEARS AHEAD (0 .. 39)". */
    private static void heldAtOnce() {
        Bench.due("held() of a new object", new GreyRoute().held(), 0);
        Bench.due("held() without STEPS", Bench.made(PAIR + "clever all;").held(), 0);
        Bench.due("held() without clever", Bench.made(PAIR + Texts.steps(20, "a", "b", 1)).held(), 0);
        Bench.due("held() without a LOOP", Bench.made(PAIR + Texts.steps(2, "a", "b", 1) + "clever all;").held(), 0);
        Bench.due("held(), one LOOP", Bench.made(PAIR + Texts.steps(3, "a", "b", 1) + "clever all;").held(), 1);
        // the fewest, though it would change again
        Bench.due("held(), clever in YEAR 1 alone", Bench.made(PAIR + Texts.steps(5, "a", "b", 1) + "clever year=1;").held(), 0);
        Bench.due("held(), clever but in YEAR 1", Bench.made(PAIR + Texts.steps(7, "a", "b", 1) + "clever not year=1;").held(), 1);
    }

    /** The longest that a ROUTE can change: gone round up to 30 STEPS, then a LOOP of two less each YEAR. */
    private static void heldAtTheLatest() {
        GreyRoute x = Bench.made(TRIANGLE + Texts.steps(20, "a", "b", 1) + "clever year>0;");
        for (int k = 20; k < 28; k++) {
            x.teach(k % 2, 1);
        }
        x.years(1);
        Bench.due("held(), 28 STEPS", x.held(), 13);
        x.teach(0, 1);
        x.teach(1, 1);
        Bench.due("has(4)", x.has(4), 30);
        Bench.due("held(), 30 STEPS", x.held(), 14);
        GreyRoute y = Bench.made(TRIANGLE + Texts.steps(20, "a", "b", 1) + "clever year>0;");
        for (int k = 20; k < 28; k++) {
            y.teach(k % 2, 1);
        }
        y.teach(2, 1);
        y.shut(1, 1);
        // from b to c by a: 30 STEPS, and no LOOP is left out in the first YEAR
        Bench.due("year(0)", y.year(0), 30);
        Bench.due("later(15, 0)", y.later(15, 0), 2);
        Bench.due("held(), gone round first", y.held(), 15);
    }

    /** "leaves all its STEPS as they are (PLACES and minutes)": as many STEPS are not enough. */
    private static void heldAsTheyAre() {
        // two STEPS more by the way round, and the LOOP of two from a to a left out in the same YEAR
        GreyRoute x = Bench.made("place a;place b;place c;place d;street a to b paces 1;street a to d paces 1;street d to c paces 1;"
            + "street c to b paces 1;step a for 0;step d for 0;step a for 0;step b for 0;clever all;");
        x.shut(0, 1);
        Bench.due("later(1, 0), as many as the ROUTE has", x.later(1, 0), 4);
        Bench.due("held(), other PLACES", x.held(), 1);
        x.years(1);
        Bench.dueText("the ROUTE behind it", Bench.route(x), "0:0 3:0 2:0 1:0");
        Bench.due("held(), as they are", x.held(), 0);
        // the ROUTE ends earlier: fewer STEPS, the same as ahead of the end
        GreyRoute y = Bench.made(PAIR + "place c;street b to c paces 1;step a for 1;step b for 1;step c for 1;");
        y.shut(1, 1);
        Bench.due("held(), it ends earlier", y.held(), 1);
    }

    /** "The tape (it goes) tells a HALF, 1 to 20 rows of two bytes"; "rows of a number (0 .. 19), a PLACE". */
    private static void halfOf20Rows() {
        GreyRoute x = Bench.made(Texts.places(8) + Texts.wheel(14, 1));
        int refused = 0;
        for (int bytes = 0; bytes <= 44; bytes++) {
            boolean canBe = bytes >= 2 && bytes <= 40 && bytes % 2 == 0;
            refused += canBe ? 0 : 1;
            Bench.due("half() of " + bytes + " bytes", Bench.half(x, new int[bytes]), canBe ? bytes / 2 : -1);
            Bench.due("has(7)", x.has(7), bytes < 2 ? 0 : Math.min(bytes, 40) / 2);
            Bench.due("the tape goes", x.end(1), false);
        }
        Bench.due("status(5)", x.status(5), refused);
        GreyRoute y = Bench.made(Texts.places(8) + Texts.wheel(14, 1));
        Bench.due("half(), number 19", Bench.half(y, 19, 0), 1);
        Bench.due("half(), number 20", Bench.half(y, 20, 0), -1);
        Bench.due("half(), PLACE 7", Bench.half(y, 0, 7), 1);
        Bench.due("half(), PLACE 8", Bench.half(y, 0, 8), -1);
        Bench.due("half(), the last of 20 rows", Bench.half(y, lastRow(19, 7)), 20);
        Bench.due("half(), the last of 20 rows, number 20", Bench.half(y, lastRow(20, 7)), -1);
        Bench.due("half(), the last of 20 rows, PLACE 8", Bench.half(y, lastRow(19, 8)), -1);
        Bench.due("status(5)", y.status(5), 4);
        GreyRoute one = Bench.made("place a;");
        Bench.due("half(), the one PLACE", Bench.half(one, 0, 0), 1);
        Bench.due("half(), beside the one PLACE", Bench.half(one, 0, 1), -1);
    }

    private static int[] lastRow(int number, int place) {
        int[] rows = new int[40];
        rows[38] = number;
        rows[39] = place;
        return rows;
    }

    /** "by the HALF of the latest half() of this TOWN that was not refused (any, if there was none ..)". */
    private static void halfOfThisTown() {
        GreyRoute x = Bench.made(TRIANGLE);
        Bench.due("filled(2), any", x.filled(2), 6);
        Bench.half(x, 0, 0);
        Bench.due("filled(2)", x.filled(2), 2);
        Bench.half(x, 0, 3);
        Bench.due("filled(2), the other was refused", x.filled(2), 2);
        Bench.half(x, 0, 0, 1, 1);
        Bench.due("filled(2), the latest", x.filled(2), 1);
        Bench.half(x, 1, 1);
        Bench.due("filled(2), the latest alone", x.filled(2), 2);
        Bench.town(x, "place a;place a;");
        Bench.due("filled(2), a town() with a FAULT", x.filled(2), 2);
        Bench.town(x, TRIANGLE);
        Bench.due("filled(2), a new TOWN, any", x.filled(2), 6);
        Bench.due("half() refused", Bench.half(x, 0), -1);
        Bench.due("filled(2), still any", x.filled(2), 6);
    }

    /** "FILLED by n STEPS (1 .. 20) .. NONE when n can't be". */
    private static void filledBy20Steps() {
        GreyRoute x = Bench.made(PAIR + "place c;");
        Bench.due("filled(1)", x.filled(1), 3);
        Bench.due("filled(2)", x.filled(2), 2);
        Bench.due("filled(20)", x.filled(20), 2);
        Bench.due("filling(20, 0)", x.filling(20, 0), 0);
        Bench.due("filling(20, 19)", x.filling(20, 19), 1);
        Bench.due("asked(20, 1)", x.asked(20, 1), 1);
        for (int n : new int[] {0, -1, 21, 22, Integer.MIN_VALUE, Integer.MAX_VALUE}) {
            Bench.due("filled(" + n + ")", x.filled(n), -1);
            Bench.due("filling(" + n + ", 0)", x.filling(n, 0), -1);
            Bench.due("asked(" + n + ", 0)", x.asked(n, 0), -1);
            Bench.due("asked(" + n + ", 1)", x.asked(n, 1), -1);
        }
        Bench.due("filled(1) of a new object", new GreyRoute().filled(1), 0);
        Bench.due("filled(20) of a new object", new GreyRoute().filled(20), 0);
        // "by STREETS, SHUT or not"
        x.shut(0, 1);
        Bench.due("filled(2), SHUT", x.filled(2), 2);
    }

    /** "rows of numbers from n on are by none". */
    private static void filledByNone() {
        GreyRoute x = Bench.made(TRIANGLE);
        for (int number : new int[] {0, 1, 5, 18, 19}) {
            Bench.half(x, number, 1);
            for (int n : new int[] {number, number + 1}) {
                if (n >= 1 && n <= 20) {
                    boolean isMet = n > number;
                    Bench.due("filled(" + n + "), number " + number, x.filled(n), isMet ? 1 << n - 1 : 0);
                    Bench.due("is filling(" + n + ", 0) told, number " + number, x.filling(n, 0) >= 0, isMet);
                    Bench.due("is asked(" + n + ", 0) told, number " + number, x.asked(n, 0) >= 0, isMet);
                }
            }
        }
        Bench.half(x, 0, 0, 3, 0);
        Bench.due("filled(3), one row is met, one is not", x.filled(3), 0);
        Bench.due("filled(4), both are met", x.filled(4), 2);
        Bench.half(x, 0, 0, 0, 1);
        Bench.due("filled(1), two PLACES for one STEP", x.filled(1), 0);
        Bench.half(x, 0, 0, 0, 0);
        Bench.due("filled(1), one PLACE twice", x.filled(1), 1);
    }

    /** "how many there are (999999999 at most)". */
    private static void filledUpTo999999999() {
        // any of k PLACES to any other of them: k * (k - 1) to the power n - 1
        String five = Texts.places(5) + "street a to b paces 1;street a to c paces 1;street a to d paces 1;street a to e paces 1;street b to c paces 1;"
            + "street b to d paces 1;street b to e paces 1;street c to d paces 1;street c to e paces 1;street d to e paces 1;";
        GreyRoute x = Bench.made(five);
        for (int n = 1; n <= 20; n++) {
            long due = 5L << 2 * (n - 1);
            Bench.due("filled(" + n + ")", x.filled(n), Math.min(999999999L, due));
        }
        // a told STEP leaves a fifth: the first above is 4 to the 15, the last below 4 to the 14
        Bench.half(x, 0, 0);
        Bench.due("filled(15), the first told", x.filled(15), 1 << 28);
        Bench.due("filled(16), the first told", x.filled(16), 999999999);
        GreyRoute y = Bench.made(TRIANGLE);
        Bench.due("filled(20), far below", y.filled(20), 3 << 19);
    }

    /** "the first one (PLACES in their order)"; "NONE when there is none such". */
    private static void fillingInTheirOrder() {
        GreyRoute x = Bench.made(TRIANGLE);
        int[] first = {0, 1, 0, 1, 0};
        for (int k = -1; k <= 5; k++) {
            Bench.due("filling(5, " + k + ")", x.filling(5, k), k >= 0 && k < 5 ? first[k] : -1);
        }
        Bench.half(x, 1, 0);
        int[] second = {1, 0, 1, 0, 1};
        for (int k = 0; k < 5; k++) {
            Bench.due("filling(5, " + k + "), the second told", x.filling(5, k), second[k]);
        }
        Bench.half(x, 2, 1);
        int[] third = {0, 2, 1, 0, 1};
        for (int k = 0; k < 5; k++) {
            Bench.due("filling(5, " + k + "), the third told", x.filling(5, k), third[k]);
        }
        Bench.half(x, 19, 0);
        for (int k = 0; k < 20; k++) {
            Bench.due("filling(20, " + k + "), the last told", x.filling(20, k), k < 17 ? k % 2 : k == 17 ? 1 : k == 18 ? 2 : 0);
        }
        // the least that leads on, not the least of all: from a by b one comes to d in time, from c not
        GreyRoute y = Bench.made(Texts.places(4) + "street a to b paces 1;street b to c paces 1;street c to d paces 1;");
        Bench.half(y, 2, 3);
        int[] due = {1, 2, 3};
        for (int k = 0; k < 3; k++) {
            Bench.due("filling(3, " + k + "), d at the end", y.filling(3, k), due[k]);
        }
        Bench.half(y, 0, 0, 2, 3);
        Bench.due("filling(3, 0), none", y.filling(3, 0), -1);
        Bench.due("filling(3, 2), none", y.filling(3, 2), -1);
        Bench.due("filling(1, 0) of a new object", new GreyRoute().filling(1, 0), -1);
    }

    /** "ASKED is the number of the STEP by whose PLACE, whatever it is, the most of these are fewest; of like ones the least." */
    private static void askedOfLikeOnes() {
        GreyRoute x = Bench.made(TRIANGLE);
        for (int n = 1; n <= 20; n++) {
            Bench.due("asked(" + n + ", 0), all alike", x.asked(n, 0), 0);
            Bench.due("asked(" + n + ", 1), all alike", x.asked(n, 1), 1 << n - 1);
        }
        Bench.half(x, 0, 0);
        Bench.due("asked(2, 0), the first told", x.asked(2, 0), 1);
        Bench.due("asked(2, 1), the first told", x.asked(2, 1), 1);
        Bench.due("asked(1, 0), the one told", x.asked(1, 0), 0);
        Bench.due("asked(1, 1), the one told", x.asked(1, 1), 1);
        // a b a, a b c, a c a, a c b: the second 2 and 2, the third 2, 1 and 1
        Bench.due("asked(3, 0), the second and the third alike", x.asked(3, 0), 1);
        Bench.due("asked(3, 1)", x.asked(3, 1), 2);
        // the fourth: a b a b, a b a c, a b c a, a b c b, a c a b, a c a c, a c b a, a c b c: 2, 3, 3; the third: 4, 2, 2
        Bench.due("asked(4, 0), the fourth", x.asked(4, 0), 3);
        Bench.due("asked(4, 1)", x.asked(4, 1), 3);
        for (int what : new int[] {-1, 2, 3, Integer.MIN_VALUE, Integer.MAX_VALUE}) {
            Bench.due("asked(3, " + what + ")", x.asked(3, what), -1);
        }
    }

    /** "NONE without any". */
    private static void askedWithoutAny() {
        GreyRoute x = Bench.made(PAIR + "place c;");
        Bench.half(x, 0, 2);
        Bench.due("asked(1, 0)", x.asked(1, 0), 0);
        Bench.due("asked(2, 0), none", x.asked(2, 0), -1);
        Bench.due("asked(2, 1), none", x.asked(2, 1), -1);
        Bench.due("filled(2), none", x.filled(2), 0);
        Bench.due("asked(1, 0) of a new object", new GreyRoute().asked(1, 0), -1);
        Bench.due("asked(1, 1) of a new object", new GreyRoute().asked(1, 1), -1);
        GreyRoute y = Bench.made("place a;");
        Bench.due("asked(1, 1)", y.asked(1, 1), 1);
        Bench.due("asked(2, 1)", y.asked(2, 1), -1);
    }

    /** "how many are left at the most (1; 999999999 at most)". */
    private static void askedUpTo999999999() {
        String five = Texts.places(5) + "street a to b paces 1;street a to c paces 1;street a to d paces 1;street a to e paces 1;street b to c paces 1;"
            + "street b to d paces 1;street b to e paces 1;street c to d paces 1;street c to e paces 1;street d to e paces 1;";
        GreyRoute x = Bench.made(five);
        for (int n = 1; n <= 20; n++) {
            // whatever the PLACE of any STEP is, a fifth of all is left
            Bench.due("asked(" + n + ", 1)", x.asked(n, 1), Math.min(999999999L, 1L << 2 * (n - 1)));
            Bench.due("asked(" + n + ", 0)", x.asked(n, 0), 0);
        }
    }
}
