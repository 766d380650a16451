import java.util.ArrayDeque;
import java.util.Arrays;
import java.util.Deque;

/** Terms II and III, promises 25 to 37: for each sentence that names an edge a test of its own. */
public final class EdgesOfActsTest {
    private static final String TOWN = Starts.TOWN;

    public static void main(String[] args) {
        yearsFrom1To40();
        yearsTogether();
        chanceFrom1To40();
        belowHot();
        drawOf41();
        drawsWrapAround();
        oneAct();
        shutAndNoMore();
        moveToEachPlace();
        teachUpTo30Minutes();
        teachBehindTheLast();
        teachUpTo30Steps();
        forgetTheLast();
        undoTheLast20();
        undoRoundAndRound();
        undoButTheSeed();
        undoWhatIsKept();
        seedFrom0();
        theLast40AreKept();
        keptOfWhatWent();
        imageOfEachSize();
        imageOfEachByte();
        octetsOfTheLatest();
        onAtItsEdges();
        onForgetsWhatWas();
        statusOfEachKind();
        Bench.finish();
    }

    private static GreyRoute at(int year) {
        GreyRoute x = Bench.made(TOWN);
        Bench.due("on()", Bench.on(x, Bench.sealed(year / 256, year % 256, 0, 0, 0, 0, 2, 4, 0, 1, 1, 2, 2, 3, 1, 4)), true);
        return x;
    }

    /** "n YEARS go by (1 .. 40) .. NONE, refused (2), when it can't be (beyond YEAR 999)". */
    private static void yearsFrom1To40() {
        for (int n : new int[] {1, 2, 39, 40}) {
            GreyRoute x = Bench.made(TOWN);
            Bench.due("is years(" + n + ") told", x.years(n) >= 0, true);
            Bench.due("has(3)", x.has(3), n);
            Bench.due("has(6)", x.has(6), n);
            Bench.due("has(8), one ACT", x.has(8), 1);
            Bench.due("has(9), no DRAW", x.has(9), 1);
            Bench.due("status(2)", x.status(2), 0);
        }
        for (int year : new int[] {0, 958, 959, 960, 997, 998, 999}) {
            for (int n : new int[] {-1, 0, 1, 2, 39, 40, 41}) {
                boolean canBe = n >= 1 && n <= 40 && year + n <= 999;
                GreyRoute x = at(year);
                Bench.due("is years(" + n + ") told in " + year, x.years(n) >= 0, canBe);
                Bench.due("has(3)", x.has(3), canBe ? year + n : year);
                Bench.due("status(2)", x.status(2), canBe ? 0 : 1);
                GreyRoute y = at(year);
                Bench.due("is chance(" + n + ") told in " + year, y.chance(n) >= 0, canBe);
                Bench.due("has(3)", y.has(3), canBe ? year + n : year);
                Bench.due("status(2)", y.status(2), canBe ? 0 : 1);
            }
        }
    }

    /** "all their TIMES together". */
    private static void yearsTogether() {
        GreyRoute x = Bench.made("place a;place b;street a to b paces 99;" + Texts.steps(20, "a", "b", 30) + "stands 60;");
        for (int k = 20; k < 30; k++) {
            x.teach(k % 2, 30);
        }
        int most = 29 * 99 + 30 * 60;
        Bench.due("year(1), the longest", x.year(1), most);
        Bench.due("years(40), the longest", x.years(40), 40 * most);
        Bench.due("kept(39, 2)", x.kept(39, 2), most);
        Bench.due("years(40) without STEPS", new GreyRoute().years(40), 0);
        GreyRoute y = Bench.made("place a;step a for 0;stands year;");
        Bench.due("years(40)", y.years(40), 39 * 40 / 2);
        Bench.due("years(1)", y.years(1), 40);
    }

    /** "n YEARS by the seed (1 .. 40), one ACT: how many were hot". */
    private static void chanceFrom1To40() {
        for (int n : new int[] {1, 2, 39, 40}) {
            GreyRoute x = Bench.made(TOWN + "hot 100;");
            Bench.due("chance(" + n + "), always hot", x.chance(n), n);
            Bench.due("has(3)", x.has(3), n);
            Bench.due("has(6)", x.has(6), n);
            Bench.due("has(8), one ACT", x.has(8), 1);
            Bench.due("has(9), two DRAWS a YEAR", x.has(9), drawn(1, 2 * n));
            GreyRoute y = Bench.made(TOWN + "hot 0;");
            Bench.due("chance(" + n + "), never hot", y.chance(n), 0);
            Bench.due("has(9), one DRAW a YEAR", y.has(9), drawn(1, n));
        }
        GreyRoute z = Bench.made(TOWN);
        z.chance(0);
        z.chance(41);
        z.chance(-1);
        Bench.due("has(9), refused: no DRAW", z.has(9), 1);
        Bench.due("status(2)", z.status(2), 3);
    }

    private static int drawn(int seed, int times) {
        long x = seed;
        for (int i = 0; i < times; i++) {
            x = (1103515245L * x + 12345L) % (1L << 31);
        }
        return (int) x;
    }

    private static int seedThatDraws(int m, int what, int ahead) {
        int seed = 0;
        while (drawn(seed, ahead) / 64 % m != what) {
            seed++;
        }
        return seed;
    }

    /** "a DRAW of 100: below hot, a DRAW of 41 is how hot it is in it; else it is as told". */
    private static void belowHot() {
        for (int hot : new int[] {0, 1, 2, 50, 99, 100}) {
            for (int draw : new int[] {0, 1, hot - 1, hot, hot + 1, 98, 99}) {
                if (draw >= 0 && draw <= 99) {
                    GreyRoute x = Bench.made("place a;step a for 0;stands heat+1;heat 40;hot " + hot + ";");
                    int seed = seedThatDraws(100, draw, 1);
                    x.seed(seed);
                    boolean isHot = draw < hot;
                    Bench.due("chance(1), hot " + hot + ", a DRAW of " + draw, x.chance(1), isHot ? 1 : 0);
                    Bench.due("kept(0, 2), hot " + hot + ", a DRAW of " + draw, x.kept(0, 2), isHot ? drawn(seed, 2) / 64 % 41 + 1 : 41);
                    Bench.due("has(9)", x.has(9), drawn(seed, isHot ? 2 : 1));
                    Bench.due("this YEAR is as told", x.year(1), 41);
                }
            }
        }
    }

    /** "a DRAW of 41 is how hot it is": 0 .. 40. */
    private static void drawOf41() {
        for (int heat : new int[] {0, 1, 20, 39, 40}) {
            GreyRoute x = Bench.made("place a;step a for 0;stands heat+1;heat 7;hot 100;");
            x.seed(seedThatDraws(41, heat, 2));
            Bench.due("chance(1)", x.chance(1), 1);
            Bench.due("kept(0, 2), so hot: " + heat, x.kept(0, 2), heat + 1);
        }
        // clever asks for the same heat
        GreyRoute y = Bench.made("place a;place b;street a to b paces 1;" + Texts.steps(3, "a", "b", 0) + "heat 7;hot 100;clever heat=33;");
        y.seed(seedThatDraws(41, 33, 2));
        y.chance(1);
        Bench.due("has(4), clever at 33", y.has(4), 1);
        GreyRoute z = Bench.made("place a;place b;street a to b paces 1;" + Texts.steps(3, "a", "b", 0) + "heat 7;hot 100;clever heat=7;");
        z.seed(seedThatDraws(41, 33, 2));
        z.chance(1);
        Bench.due("has(4), not clever at 33", z.has(4), 3);
    }

    /** "x (the seed) becomes (1103515245 x + 12345) mod 2 to the 31". */
    private static void drawsWrapAround() {
        for (int seed : new int[] {0, 1, 2, 65535, 1 << 30, Integer.MAX_VALUE - 1, Integer.MAX_VALUE}) {
            GreyRoute x = Bench.made(TOWN + "hot 0;");
            x.seed(seed);
            for (int i = 1; i <= 10; i++) {
                x.chance(1);
                Bench.due("has(9) behind " + i + " DRAWS from " + seed, x.has(9), drawn(seed, i));
            }
        }
        GreyRoute y = Bench.made("hot 0;");
        y.seed(0);
        y.chance(1);
        Bench.due("has(9) behind a DRAW from 0", y.has(9), 12345);
        y.seed(1);
        y.chance(1);
        Bench.due("has(9) behind a DRAW from 1", y.has(9), 1103527590);
    }

    /** "ACTS: YEARS, by the seed; a STREET is SHUT, or no more; a THING is moved; a STEP is taught ..; the last STEP is forgotten." */
    private static void oneAct() {
        GreyRoute x = Bench.made(TOWN);
        int acts = 0;
        x.years(3);
        Bench.due("has(8), years()", x.has(8), ++acts);
        x.chance(3);
        Bench.due("has(8), chance()", x.has(8), ++acts);
        x.shut(0, 1);
        Bench.due("has(8), shut()", x.has(8), ++acts);
        x.shut(0, 0);
        Bench.due("has(8), shut() no more", x.has(8), ++acts);
        x.move(0, 1);
        Bench.due("has(8), move()", x.has(8), ++acts);
        x.teach(2, 1);
        Bench.due("has(8), teach()", x.has(8), ++acts);
        x.forget();
        Bench.due("has(8), forget()", x.has(8), ++acts);
        x.seed(5);
        x.image();
        Bench.half(x, 0, 0);
        x.feed(0, 0, 0, 0, 0);
        x.end(0);
        Bench.due("has(8), none of these is an ACT", x.has(8), acts);
        x.undo();
        Bench.due("has(8), undo()", x.has(8), acts - 1);
    }

    /** "A STREET is SHUT (on 1), or no more (0): true; false, refused (3), when it is so already". */
    private static void shutAndNoMore() {
        GreyRoute x = Bench.made(Texts.places(8) + Texts.wheel(14, 1));
        for (int i = 0; i < 14; i++) {
            Bench.due("shut(" + i + ", 0), it is so already", x.shut(i, 0), false);
            Bench.due("shut(" + i + ", 1)", x.shut(i, 1), true);
            Bench.due("shut(" + i + ", 1), it is so already", x.shut(i, 1), false);
            Bench.due("street(" + i + ", 3)", x.street(i, 3), 1);
            Bench.due("street(" + (i + 1) + ", 3)", x.street(i + 1, 3), i < 13 ? 0 : -1);
            Bench.due("has(5)", x.has(5), i + 1);
        }
        Bench.due("shut(14, 1)", x.shut(14, 1), false);
        Bench.due("shut(-1, 1)", x.shut(-1, 1), false);
        Bench.due("way(0, 1), all SHUT", x.way(0, 1), -1);
        for (int i = 13; i >= 0; i--) {
            Bench.due("shut(" + i + ", 0)", x.shut(i, 0), true);
            Bench.due("street(" + i + ", 3)", x.street(i, 3), 0);
            Bench.due("has(5)", x.has(5), i);
        }
        Bench.due("status(3)", x.status(3), 30);
        Bench.due("way(0, 1)", x.way(0, 1), 1);
    }

    /** "A THING is moved to a PLACE: true; false, refused (3), when it is there, or there are none such." */
    private static void moveToEachPlace() {
        GreyRoute x = Bench.made(Texts.places(8) + Texts.things(8, "a", 1));
        for (int thing = 0; thing < 8; thing++) {
            Bench.due("move(" + thing + ", 0), it is there", x.move(thing, 0), false);
            for (int place = 1; place < 8; place++) {
                Bench.due("move(" + thing + ", " + place + ")", x.move(thing, place), true);
                Bench.due("thing(" + thing + ", 0)", x.thing(thing, 0), place);
            }
            Bench.due("move(" + thing + ", 7), it is there", x.move(thing, 7), false);
            Bench.due("move(" + thing + ", 8)", x.move(thing, 8), false);
            Bench.due("move(" + thing + ", -1)", x.move(thing, -1), false);
        }
        Bench.due("move(8, 0)", x.move(8, 0), false);
        Bench.due("move(-1, 0)", x.move(-1, 0), false);
        Bench.due("status(3)", x.status(3), 34);
    }

    /** "A STEP is taught (0 .. 30 minutes)". */
    private static void teachUpTo30Minutes() {
        for (int minutes : new int[] {-1, 0, 1, 29, 30, 31}) {
            GreyRoute x = Bench.made(TOWN);
            boolean canBe = minutes >= 0 && minutes <= 30;
            Bench.due("teach(0, " + minutes + ")", x.teach(0, minutes), canBe);
            Bench.due("has(4)", x.has(4), canBe ? 5 : 4);
            Bench.due("step(4, 1)", x.step(4, 1), canBe ? minutes : -1);
            Bench.due("status(3)", x.status(3), canBe ? 0 : 1);
        }
    }

    /** "behind the last one, with minutes; any PLACE, if there is none"; "when no STREET goes there from the last one". */
    private static void teachBehindTheLast() {
        for (int place = -1; place <= 4; place++) {
            GreyRoute x = Bench.made(TOWN);
            boolean goes = place == 0 || place == 2;
            Bench.due("teach(" + place + ", 7), from mill", x.teach(place, 7), goes);
            Bench.due("step(4, 0)", x.step(4, 0), goes ? place : -1);
            GreyRoute y = Bench.made(TOWN);
            for (int i = 0; i < 4; i++) {
                y.forget();
            }
            boolean isPlace = place >= 0 && place < 4;
            Bench.due("teach(" + place + ", 7), there is none", y.teach(place, 7), isPlace);
            Bench.due("step(0, 0)", y.step(0, 0), isPlace ? place : -1);
        }
        GreyRoute z = Bench.made(TOWN);
        z.shut(0, 1);
        Bench.due("teach(0, 7), by a STREET that is SHUT", z.teach(0, 7), true);
        Bench.due("teach(0, 0) without PLACES", new GreyRoute().teach(0, 0), false);
        // from the last one, as years have left the ROUTE
        GreyRoute u = Bench.made("place a;place b;place c;street a to b paces 1;street b to c paces 1;step a for 0;step b for 0;");
        u.shut(0, 1);
        u.years(1);
        Bench.due("has(4), it ended", u.has(4), 1);
        Bench.due("teach(2, 0), from a", u.teach(2, 0), false);
        Bench.due("teach(1, 0), from a", u.teach(1, 0), true);
        Bench.due("teach(2, 0), from b", u.teach(2, 0), true);
    }

    /** "when .. there are 30". */
    private static void teachUpTo30Steps() {
        GreyRoute x = Bench.made(TOWN);
        for (int k = 4; k < 30; k++) {
            Bench.due("teach(), the STEP " + k, x.teach(k % 2 == 0 ? 0 : 1, k % 31), true);
            Bench.due("has(4)", x.has(4), k + 1);
        }
        Bench.due("teach(), there are 30", x.teach(0, 0), false);
        Bench.due("teach(), there are 30", x.teach(2, 0), false);
        Bench.due("has(4)", x.has(4), 30);
        Bench.due("status(3)", x.status(3), 2);
        Bench.due("forget()", x.forget(), true);
        Bench.due("teach(), there are 29", x.teach(1, 0), true);
        Bench.due("year(0)", x.year(0), 30);
        Bench.due("goes(29, 0)", x.goes(29, 0), 1);
    }

    /** "The last STEP is forgotten: true; false, refused (3), when there is none." */
    private static void forgetTheLast() {
        GreyRoute x = Bench.made(TOWN);
        String[] left = {"0:1 1:2 2:3", "0:1 1:2", "0:1", ""};
        for (String route : left) {
            Bench.due("forget()", x.forget(), true);
            Bench.dueText("the ROUTE", Bench.route(x), route);
        }
        Bench.due("forget(), there is none", x.forget(), false);
        Bench.due("status(3)", x.status(3), 1);
        Bench.due("has(8)", x.has(8), 4);
        Bench.due("year(0)", x.year(0), 0);
    }

    /** "The last 20 can be undone." */
    private static void undoTheLast20() {
        for (int acts : new int[] {0, 1, 19, 20, 21, 22, 40, 41}) {
            GreyRoute x = Bench.made(TOWN);
            for (int i = 0; i < acts; i++) {
                x.move(0, 1 + i % 3);
            }
            int undone = Math.min(acts, 20);
            Bench.due("has(8) behind " + acts, x.has(8), undone);
            for (int i = 1; i <= undone; i++) {
                Bench.due("undo() number " + i + " of " + acts, x.undo(), true);
                Bench.due("thing(0, 0)", x.thing(0, 0), acts == i ? 0 : 1 + (acts - i - 1) % 3);
                Bench.due("has(8)", x.has(8), undone - i);
            }
            Bench.due("undo(), none can be", x.undo(), false);
            Bench.due("status(4)", x.status(4), 1);
        }
    }

    /** ACTS behind ACTS undone, over and over: so many ACTS, then so many undone, and so on. */
    private static void undoRoundAndRound() {
        GreyRoute x = Bench.made(TOWN);
        Deque<Integer> ahead = new ArrayDeque<>();
        int[] rounds = {15, 5, 12, 20, 3, 1, 7, 8, 25, 19, 30, 4};
        for (int r = 0; r < rounds.length; r++) {
            for (int i = 0; i < rounds[r]; i++) {
                int place = x.thing(0, 0);
                if (r % 2 == 0) {
                    ahead.addLast(place);
                    x.move(0, (place + 1 + i % 3) % 4);
                } else {
                    Bench.due("undo()", x.undo(), !ahead.isEmpty());
                    Bench.due("thing(0, 0)", x.thing(0, 0), ahead.isEmpty() ? place : ahead.removeLast());
                }
                if (ahead.size() > 20) {
                    ahead.removeFirst();
                }
            }
            Bench.due("has(8)", x.has(8), ahead.size());
        }
    }

    /** "all is as it was ahead of it (but the seed)". */
    private static void undoButTheSeed() {
        GreyRoute x = Bench.made(TOWN);
        x.seed(9);
        x.chance(5);
        int behind = x.has(9);
        Bench.due("undo()", x.undo(), true);
        Bench.due("has(9), the seed stays drawn from", x.has(9), behind);
        Bench.due("has(3)", x.has(3), 0);
        Bench.due("has(6)", x.has(6), 0);
        x.shut(0, 1);
        x.seed(3);
        x.undo();
        Bench.due("has(9), the seed told since", x.has(9), 3);
        // the HALF, the image and what was refused are not of the ACT
        x.years(1);
        Bench.half(x, 0, 1);
        int size = x.image();
        x.forget();
        x.years(0);
        x.undo();
        x.undo();
        Bench.due("has(7)", x.has(7), 1);
        Bench.due("octet(1), of the latest image()", x.octet(1), 1);
        Bench.due("octet(), its last", x.octet(size - 1) >= 0, true);
        Bench.due("status(2)", x.status(2), 1);
    }

    /** What is KEPT is as it was ahead of the ACT, up to YEAR 999 and back. */
    private static void undoWhatIsKept() {
        GreyRoute x = Bench.made("place a;step a for 0;stands year%61;");
        for (int i = 0; i < 24; i++) {
            x.years(40);
        }
        x.years(39);
        Bench.due("kept(0, 0)", x.kept(0, 0), 959);
        Bench.due("kept(39, 0)", x.kept(39, 0), 998);
        for (int i = 1; i <= 20; i++) {
            Bench.due("undo()", x.undo(), true);
            int year = 960 - 40 * (i - 1);
            Bench.due("has(3)", x.has(3), year);
            Bench.due("has(6)", x.has(6), 40);
            for (int k : new int[] {0, 20, 39}) {
                Bench.due("kept(" + k + ", 0) in " + year, x.kept(k, 0), year - 40 + k);
                Bench.due("kept(" + k + ", 2) in " + year, x.kept(k, 2), (year - 40 + k) % 61);
            }
        }
        Bench.due("undo(), none can be", x.undo(), false);
        Bench.due("has(3)", x.has(3), 200);
        x.years(1);
        Bench.due("kept(0, 0)", x.kept(0, 0), 161);
        Bench.due("kept(39, 0)", x.kept(39, 0), 200);
    }

    /** "The seed: true; false, refused (5), when it is below 0." */
    private static void seedFrom0() {
        GreyRoute x = new GreyRoute();
        Bench.due("has(9) of a new object", x.has(9), 1);
        for (int seed : new int[] {0, 1, Integer.MAX_VALUE}) {
            Bench.due("seed(" + seed + ")", x.seed(seed), true);
            Bench.due("has(9)", x.has(9), seed);
            Bench.due("seed(-1)", x.seed(-1), false);
            Bench.due("seed(-2147483648)", x.seed(Integer.MIN_VALUE), false);
            Bench.due("has(9)", x.has(9), seed);
        }
        Bench.due("status(5)", x.status(5), 6);
        Bench.town(x, TOWN);
        Bench.due("has(9) behind town()", x.has(9), Integer.MAX_VALUE);
    }

    /** "(the last 40 are told)"; "NONE when there is none such, or for others". */
    private static void theLast40AreKept() {
        for (int n : new int[] {0, 1, 39, 40, 41, 79, 80, 81}) {
            GreyRoute x = Bench.made("place a;step a for 0;stands year;");
            for (int i = 0; i < n; i++) {
                x.years(1);
            }
            int told = Math.min(n, 40);
            Bench.due("has(6) behind " + n, x.has(6), told);
            Bench.due("kept(-1, 0)", x.kept(-1, 0), -1);
            Bench.due("kept(0, 0)", x.kept(0, 0), n == 0 ? -1 : n - told);
            Bench.due("kept(0, 1)", x.kept(0, 1), n == 0 ? -1 : 1);
            Bench.due("kept(last, 0)", x.kept(told - 1, 0), n == 0 ? -1 : n - 1);
            Bench.due("kept(last, 2)", x.kept(told - 1, 2), n == 0 ? -1 : Math.min(60, n - 1));
            Bench.due("kept(" + told + ", 0)", x.kept(told, 0), -1);
            Bench.due("kept(0, 3)", x.kept(0, 3), -1);
            Bench.due("kept(0, -1)", x.kept(0, -1), -1);
        }
    }

    /** "KEPT is of each YEAR: YEAR, how many STEPS it went, the TIME". */
    private static void keptOfWhatWent() {
        GreyRoute x = Bench.made("place a;place b;place c;street a to b paces 1;street a to c paces 2;street c to b paces 4;step a for 1;step b for 1;"
            + "step a for 1;clever year=1;");
        x.shut(0, 1);
        x.years(3);
        // in YEAR 0 gone round, in 1 the LOOP is still gone, in 2 it is not
        int[][] due = {{0, 5, 12 + 3}, {1, 5, 12 + 3}, {2, 1, 1}};
        for (int k = 0; k < 3; k++) {
            for (int what = 0; what < 3; what++) {
                Bench.due("kept(" + k + ", " + what + ")", x.kept(k, what), due[k][what]);
            }
        }
    }

    /** "AN IMAGE is written: how many bytes." */
    private static void imageOfEachSize() {
        Bench.due("image() of a new object", new GreyRoute().image(), 2 + 1 + 1);
        GreyRoute full = Bench.made(Texts.places(8) + Texts.wheel(14, 1) + Texts.things(8, "h", 9) + Texts.steps(20, "a", "b", 30));
        for (int k = 20; k < 30; k++) {
            full.teach(k % 2, 30);
        }
        Bench.due("image(), all that there can be", full.image(), 2 + 14 + 8 + 1 + 60 + 1);
        for (int i = 0; i < 30; i++) {
            full.forget();
            Bench.due("image(), a STEP less", full.image(), 2 + 14 + 8 + 1 + 2 * (29 - i) + 1);
        }
    }

    /** "YEAR (two bytes, the higher first); for each STREET 1 if it is SHUT, else 0; for each THING its PLACE; ..". */
    private static void imageOfEachByte() {
        for (int year : new int[] {0, 1, 255, 256, 511, 512, 998, 999}) {
            GreyRoute x = at(year);
            x.shut(1, 1);
            x.move(1, 3);
            x.forget();
            int[] due = Bench.sealed(year / 256, year % 256, 0, 1, 0, 0, 3, 3, 0, 1, 1, 2, 2, 3);
            Bench.dueText("the image in " + year, Arrays.toString(Bench.image(x)), Arrays.toString(due));
        }
        // c from 197 on: (5 * 197 + 0) mod 251 = 232; then 156; then 27
        GreyRoute y = new GreyRoute();
        Bench.dueText("the image of a new object", Arrays.toString(Bench.image(y)), "[0, 0, 0, 27]");
    }

    /** "Byte k of the latest image(); NONE when there is none such." */
    private static void octetsOfTheLatest() {
        GreyRoute x = Bench.made(TOWN);
        for (int k : new int[] {-1, 0, 1, Integer.MIN_VALUE, Integer.MAX_VALUE}) {
            Bench.due("octet(" + k + ") ahead of any image()", x.octet(k), -1);
        }
        int size = x.image();
        Bench.due("image()", size, 2 + 3 + 2 + 1 + 8 + 1);
        Bench.due("octet(-1)", x.octet(-1), -1);
        Bench.due("octet(0)", x.octet(0), 0);
        Bench.due("octet(size - 2)", x.octet(size - 2), 4);
        Bench.due("octet(size)", x.octet(size), -1);
        x.forget();
        x.years(1);
        Bench.due("octet(1), the latest image() still", x.octet(1), 0);
        Bench.due("octet(size - 2), the latest image() still", x.octet(size - 2), 4);
        Bench.due("image(), shorter", x.image(), size - 2);
        Bench.due("octet(1)", x.octet(1), 1);
        Bench.due("octet(size - 2), there is none such now", x.octet(size - 2), -1);
        x.undo();
        Bench.due("octet(1), undo() writes none", x.octet(1), 1);
    }

    /** "(YEAR 999, 30 STEPS, 30 minutes at most; PLACES that there are; a STREET, SHUT or not, from each STEP to the next one)". */
    private static void onAtItsEdges() {
        on(true, "YEAR 0", 0, 0, 0, 0, 0, 0, 0, 0);
        on(true, "YEAR 999", 3, 231, 0, 0, 0, 0, 0, 0);
        on(false, "YEAR 1000", 3, 232, 0, 0, 0, 0, 0, 0);
        on(false, "YEAR 1024", 4, 0, 0, 0, 0, 0, 0, 0);
        on(false, "YEAR 65280", 255, 0, 0, 0, 0, 0, 0, 0);
        on(true, "each STREET 1", 0, 0, 1, 1, 1, 0, 0, 0);
        on(false, "the first STREET 2", 0, 0, 2, 0, 0, 0, 0, 0);
        on(false, "the last STREET 2", 0, 0, 0, 0, 2, 0, 0, 0);
        on(false, "a STREET 255", 0, 0, 0, 255, 0, 0, 0, 0);
        on(true, "each THING in the last PLACE", 0, 0, 0, 0, 0, 3, 3, 0);
        on(false, "the first THING beyond", 0, 0, 0, 0, 0, 4, 3, 0);
        on(false, "the last THING beyond", 0, 0, 0, 0, 0, 3, 4, 0);
        on(true, "30 minutes", 0, 0, 0, 0, 0, 0, 0, 1, 3, 30);
        on(false, "31 minutes", 0, 0, 0, 0, 0, 0, 0, 1, 3, 31);
        on(false, "255 minutes", 0, 0, 0, 0, 0, 0, 0, 1, 3, 255);
        on(false, "a STEP beyond", 0, 0, 0, 0, 0, 0, 0, 1, 4, 30);
        on(true, "two STEPS", 0, 0, 0, 0, 0, 0, 0, 2, 0, 30, 1, 30);
        on(true, "two STEPS, all SHUT", 0, 0, 1, 1, 1, 0, 0, 2, 0, 30, 1, 30);
        on(false, "two STEPS, no STREET", 0, 0, 0, 0, 0, 0, 0, 2, 0, 30, 3, 30);
        on(false, "two STEPS in one PLACE", 0, 0, 0, 0, 0, 0, 0, 2, 1, 30, 1, 30);
        on(false, "three STEPS, no STREET to the last", 0, 0, 0, 0, 0, 0, 0, 3, 0, 30, 1, 30, 3, 0);
        for (int steps : new int[] {29, 30, 31, 255}) {
            int[] ahead = new int[8 + 2 * steps];
            ahead[7] = steps;
            for (int k = 0; k < steps; k++) {
                ahead[8 + 2 * k] = k % 2;
            }
            on(steps <= 30, steps + " STEPS", ahead);
        }
        // of this TOWN: another one's has more or fewer STREETS
        GreyRoute x = new GreyRoute();
        Bench.due("on(), of another TOWN", Bench.on(x, Bench.sealed(0, 0, 0, 0, 0, 0, 0, 0)), false);
        Bench.due("on(), of a new object", Bench.on(x, Bench.sealed(3, 231, 0)), true);
        Bench.due("has(3)", x.has(3), 999);
    }

    private static void on(boolean canBe, String which, int... ahead) {
        GreyRoute x = Bench.made(TOWN);
        int[] image = Bench.sealed(ahead);
        Bench.due("on(): " + which, Bench.on(x, image), canBe);
        Bench.due("status(5): " + which, x.status(5), canBe ? 0 : 1);
        Bench.due("the tape goes: " + which, x.end(1), false);
        Bench.due("is it as told: " + which, Arrays.equals(Bench.image(x), image), canBe);
        GreyRoute y = Bench.made(TOWN);
        int[] other = image.clone();
        other[image.length - 1] = (image[image.length - 1] + 1) % 256;
        Bench.due("on(), another last byte: " + which, Bench.on(y, other), false);
        Bench.due("status(5)", y.status(5), 1);
    }

    /** "true, all is as it tells, nothing is KEPT, no ACT can be undone". */
    private static void onForgetsWhatWas() {
        for (Starts.Start start : Starts.TOWNS) {
            GreyRoute x = start.made();
            int seed = x.has(9);
            int rows = x.has(7);
            Bench.due("on() on " + start, Bench.on(x, Bench.sealed(0, 9, 1, 0, 1, 3, 1, 2, 2, 5, 1, 6)), true);
            int[] has = {4, 3, 2, 9, 2, 2, 0, rows, 0, seed};
            for (int i = 0; i < has.length; i++) {
                Bench.due("has(" + i + ") behind on() on " + start, x.has(i), has[i]);
            }
            Bench.dueText("the ROUTE behind on() on " + start, Bench.route(x), "2:5 1:6");
            Bench.due("thing(0, 0)", x.thing(0, 0), 3);
            Bench.due("thing(1, 0)", x.thing(1, 0), 1);
            Bench.due("kept(0, 0)", x.kept(0, 0), -1);
            Bench.due("undo()", x.undo(), false);
            x.years(1);
            Bench.due("has(6)", x.has(6), 1);
            Bench.due("kept(0, 0)", x.kept(0, 0), 9);
            Bench.due("undo()", x.undo(), true);
            Bench.due("has(3)", x.has(3), 9);
            Bench.due("has(6)", x.has(6), 0);
        }
    }

    /** "How many were refused: 0 .. 5. NONE for others." */
    private static void statusOfEachKind() {
        for (int what : new int[] {-1, 6, 7, Integer.MIN_VALUE, Integer.MAX_VALUE}) {
            Bench.due("status(" + what + ")", new GreyRoute().status(what), -1);
        }
        for (Starts.Start start : new Starts.Start[] {Starts.NEW, Starts.FIRST}) {
            GreyRoute x = start.made();
            for (int i = 0; i < 6; i++) {
                Bench.due("status(" + i + ") at first", x.status(i), 0);
            }
        }
        GreyRoute x = new GreyRoute();
        int[] due = new int[6];
        for (int i = 1; i <= 3; i++) {
            x.end(-1);
            count(x, due, 0);
            Bench.town(x, "?");
            count(x, due, 1);
            x.years(0);
            count(x, due, 2);
            x.chance(0);
            count(x, due, 2);
            x.shut(0, 1);
            count(x, due, 3);
            x.move(0, 0);
            count(x, due, 3);
            x.teach(0, 0);
            count(x, due, 3);
            x.forget();
            count(x, due, 3);
            x.undo();
            count(x, due, 4);
            x.seed(-1);
            count(x, due, 5);
            x.half();
            count(x, due, 5);
            x.on();
            count(x, due, 5);
        }
        for (int size = 20; size <= 1600; size += 20) {
            x.feed(0, 0, 0, 0, 0);
        }
        x.feed(0, 0, 0, 0, 0);
        count(x, due, 0);
        // a town() without a FAULT leaves them
        x.end(0);
        x.town();
        due[0]--;
        count(x, due, 0);
    }

    private static void count(GreyRoute x, int[] due, int kind) {
        due[kind]++;
        for (int i = 0; i < due.length; i++) {
            Bench.due("status(" + i + ") behind one of " + kind, x.status(i), due[i]);
        }
    }
}
