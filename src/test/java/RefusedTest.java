import java.util.Arrays;
import java.util.function.ToLongFunction;

/**
 * Every call that can be refused, for each reason that the document names: what it answers, that status() counts it once
 * under its own number, and that all else stays as it was; then that asking changes nothing.
 */
public final class RefusedTest {
    private static final int[] FAR = {Integer.MIN_VALUE, Integer.MAX_VALUE};

    public static void main(String[] args) {
        feedBeyond1600();
        endOfWhatIsNotThere();
        townWithEachFault();
        halfThatIsNone();
        yearsThatCannotBe();
        yearsBeyond999();
        shutThatCannotBe();
        moveThatCannotBe();
        teachThatCannotBe();
        forgetWithoutSteps();
        undoWithoutActs();
        seedBelowNought();
        onThatIsNoImage();
        askingChangesNothing();
        Bench.finish();
    }

    private static void no(Starts.Start start, String call, int kind, ToLongFunction<GreyRoute> it) {
        Starts.refused(start, call, it, -1, kind);
    }

    private static void not(Starts.Start start, String call, int kind, java.util.function.Predicate<GreyRoute> it) {
        Starts.refused(start, call, x -> Starts.number(it.test(x)), 0, kind);
    }

    private static void feedBytes(GreyRoute x, int many) {
        for (int i = 0; i < many; i += 20) {
            x.feed(0x20202020, 0x20202020, 0x20202020, 0x20202020, 0x20202020);
        }
        x.end(many);
    }

    private static void feedBeyond1600() {
        for (int many : new int[] {1581, 1599, 1600}) {
            Starts.Start start = Starts.FIRST.then(many + " bytes on the tape", x -> feedBytes(x, many));
            no(start, "feed()", 0, x -> x.feed(1, 2, 3, 4, 5));
        }
        GreyRoute x = Starts.FIRST.made();
        feedBytes(x, 1580);
        Bench.due("feed() up to 1600", x.feed(0x20202020, 0x20202020, 0x20202020, 0x20202020, 0x20202020), 1600);
        Bench.due("status(0)", x.status(0), 0);
        Bench.due("town() of 1600 blanks", x.town(), 0);
    }

    private static void endOfWhatIsNotThere() {
        for (Starts.Start start : Starts.ALL) {
            for (int n : new int[] {-1, 1, 20, FAR[0], FAR[1]}) {
                not(start, "end(" + n + ")", 0, x -> x.end(n));
            }
        }
        Starts.Start told = Starts.FIRST.then("a TOWN on the tape", x -> Bench.feed(x, 0, Bench.bytes("place x;heat 3;hot 4;place y;")));
        for (int n : new int[] {-1, 30, 40, FAR[0], FAR[1]}) {
            not(told, "end(" + n + ")", 0, x -> x.end(n));
        }
    }

    private static void townWithEachFault() {
        String[] faulty = {"place", "nosuch 1;", "place a;place a;", "place a;street a to a paces 1;", "heat 41;", "stands ((((((((1))))))));",
            "clever all;clever all;", "place one;place two;place three;street one to two paces 7;step one for 1;heat 3;stands 1;hot 8;clever"};
        int[] faults = {1, 1, 2, 3, 4, 5, 6, 1};
        int[] places = {5, 0, 14, 20, 5, 14, 11, faulty[7].length()};
        for (Starts.Start start : Starts.ALL) {
            for (int i = 0; i < faulty.length; i++) {
                String text = faulty[i];
                no(start, "town() of " + text, 1, x -> Bench.town(x, text));
                GreyRoute x = start.made();
                Bench.town(x, text);
                Bench.due("fault(0) of " + text, x.fault(0), faults[i]);
                Bench.due("fault(1) of " + text, x.fault(1), places[i]);
                Bench.due("the tape goes, " + text, x.end(1), false);
            }
        }
    }

    private static void halfThatIsNone() {
        for (Starts.Start start : Starts.ALL) {
            noHalf(start);
            noHalf(start, 0);
            noHalf(start, 0, 0, 0);
            noHalf(start, 20, 0);
            noHalf(start, 255, 0);
            noHalf(start, 0, 4);
            noHalf(start, 0, 255);
            noHalf(start, 0, 0, 1, 1, 2, 4);
            noHalf(start, 0, 0, 1, 1, 20, 0);
            noHalf(start, new int[39]);
            noHalf(start, new int[41]);
            noHalf(start, new int[42]);
        }
        noHalf(Starts.NEW, 0, 0);
    }

    private static void noHalf(Starts.Start start, int... rows) {
        no(start, "half() of " + Arrays.toString(rows), 5, x -> Bench.half(x, rows));
        GreyRoute x = start.made();
        Bench.half(x, rows);
        Bench.due("the tape goes, half() of " + Arrays.toString(rows), x.end(1), false);
    }

    private static void yearsThatCannotBe() {
        for (Starts.Start start : Starts.ALL) {
            for (int n : new int[] {0, -1, 41, FAR[0], FAR[1]}) {
                no(start, "years(" + n + ")", 2, x -> x.years(n));
                no(start, "chance(" + n + ")", 2, x -> x.chance(n));
            }
        }
    }

    private static void yearsBeyond999() {
        for (int n : new int[] {1, 2, 39, 40}) {
            no(Starts.FULL, "years(" + n + ")", 2, x -> x.years(n));
            no(Starts.FULL, "chance(" + n + ")", 2, x -> x.chance(n));
            int from = 999 - n;
            Starts.Start early = Starts.FIRST.then("YEAR " + (from + 1), x -> Bench.on(x, atYear(from + 1)));
            no(early, "years(" + n + ")", 2, x -> x.years(n));
            no(early, "chance(" + n + ")", 2, x -> x.chance(n));
            GreyRoute x = Starts.FIRST.made();
            Bench.on(x, atYear(from));
            Bench.due("years(" + n + ") up to 999 is not refused", x.years(n) >= 0, true);
            Bench.due("has(3)", x.has(3), 999);
            x.undo();
            Bench.due("chance(" + n + ") up to 999 is not refused", x.chance(n) >= 0, true);
            Bench.due("has(3)", x.has(3), 999);
            Bench.due("status(2)", x.status(2), 0);
        }
    }

    /** AN IMAGE of Starts.TOWN. */
    private static int[] atYear(int year) {
        return Bench.sealed(year / 256, year % 256, 0, 0, 0, 0, 2, 2, 0, 5, 1, 6);
    }

    private static void shutThatCannotBe() {
        for (Starts.Start start : Starts.ALL) {
            for (int on = 0; on < 2; on++) {
                for (int street : new int[] {-1, 3, 14, 32, FAR[0], FAR[1]}) {
                    int to = on;
                    not(start, "shut(" + street + ", " + to + ")", 3, x -> x.shut(street, to));
                }
            }
            for (int on : new int[] {-1, 2, FAR[0], FAR[1]}) {
                not(start, "shut(0, " + on + ")", 3, x -> x.shut(0, on));
            }
            for (int street = 0; street < 3; street++) {
                int which = street;
                not(start, "shut(" + which + ", 0), it is so already", 3, x -> x.shut(which, 0));
                Starts.Start shut = start.then(which + " SHUT", x -> x.shut(which, 1));
                not(shut, "shut(" + which + ", 1), it is so already", 3, x -> x.shut(which, 1));
            }
        }
    }

    private static void moveThatCannotBe() {
        for (Starts.Start start : Starts.ALL) {
            for (int thing : new int[] {-1, 2, 8, FAR[0], FAR[1]}) {
                not(start, "move(" + thing + ", 1)", 3, x -> x.move(thing, 1));
            }
            for (int place : new int[] {-1, 4, 8, FAR[0], FAR[1]}) {
                not(start, "move(1, " + place + ")", 3, x -> x.move(1, place));
            }
            not(start, "move(1, 2), it is there", 3, x -> x.move(1, 2));
        }
        not(Starts.FIRST, "move(0, 0), it is there", 3, x -> x.move(0, 0));
        not(Starts.LIVED, "move(0, 3), it is there", 3, x -> x.move(0, 3));
    }

    private static void teachThatCannotBe() {
        for (Starts.Start start : Starts.ALL) {
            for (int minutes : new int[] {-1, 31, 60, FAR[0], FAR[1]}) {
                not(start, "teach(2, " + minutes + ")", 3, x -> x.teach(2, minutes));
            }
            for (int place : new int[] {-1, 4, 8, FAR[0], FAR[1]}) {
                not(start, "teach(" + place + ", 3)", 3, x -> x.teach(place, 3));
            }
            not(start, "teach(3, 3), no STREET goes there", 3, x -> x.teach(3, 3));
        }
        not(Starts.FIRST, "teach(1, 3), the last STEP is there", 3, x -> x.teach(1, 3));
        not(Starts.LIVED, "teach(0, 3), the last STEP is there", 3, x -> x.teach(0, 3));
        for (int place = 0; place < 4; place++) {
            int there = place;
            not(Starts.FULL, "teach(" + there + ", 0), there are 30", 3, x -> x.teach(there, 0));
        }
        GreyRoute x = Starts.FULL.made();
        x.forget();
        Bench.due("teach(1, 0), there are 29", x.teach(1, 0), true);
        Bench.due("status(3)", x.status(3), 0);
    }

    private static void forgetWithoutSteps() {
        not(Starts.NEW, "forget()", 3, x -> x.forget());
        Starts.Start empty = Starts.FIRST.then("all STEPS forgotten", x -> {
            for (int i = 0; i < 4; i++) {
                Bench.due("forget() number " + i, x.forget(), true);
            }
        });
        not(empty, "forget()", 3, x -> x.forget());
        not(new Starts.Start("a TOWN without STEPS", x -> Bench.town(x, "place a;place b;")), "forget()", 3, x -> x.forget());
    }

    private static void undoWithoutActs() {
        not(Starts.NEW, "undo()", 4, x -> x.undo());
        not(Starts.FIRST, "undo()", 4, x -> x.undo());
        Starts.Start undone = Starts.FULL.then("20 ACTS undone", x -> {
            for (int i = 0; i < 20; i++) {
                Bench.due("undo() number " + i, x.undo(), true);
            }
        });
        not(undone, "undo()", 4, x -> x.undo());
        not(Starts.LIVED.then("a new TOWN", x -> Bench.town(x, Starts.TOWN)), "undo()", 4, x -> x.undo());
        not(Starts.LIVED.then("AN IMAGE", x -> Bench.on(x, atYear(7))), "undo()", 4, x -> x.undo());
    }

    private static void seedBelowNought() {
        for (Starts.Start start : Starts.ALL) {
            not(start, "seed(-1)", 5, x -> x.seed(-1));
            not(start, "seed(-2147483648)", 5, x -> x.seed(Integer.MIN_VALUE));
        }
    }

    private static void onThatIsNoImage() {
        int[] good = atYear(8);
        for (Starts.Start start : Starts.TOWNS) {
            Bench.due("on() of what is AN IMAGE", Bench.on(start.made(), good), true);
            for (int i = 0; i < good.length; i++) {
                noImage(start, "cut at " + i, Arrays.copyOf(good, i));
                int[] other = good.clone();
                other[i] = other[i] + 1;
                noImage(start, "another byte " + i, other);
            }
            noImage(start, "a byte more", Arrays.copyOf(good, good.length + 1));
            noImage(start, "YEAR 1000", atYear(1000));
            noImage(start, "YEAR 65535", atYear(65535));
            noImage(start, "a STREET that is 2", Bench.sealed(0, 8, 0, 0, 2, 0, 2, 0));
            noImage(start, "a THING nowhere", Bench.sealed(0, 8, 0, 0, 0, 0, 4, 0));
            noImage(start, "the first THING nowhere", Bench.sealed(0, 8, 0, 0, 0, 255, 0, 0));
            noImage(start, "the first STEP nowhere", Bench.sealed(0, 8, 0, 0, 0, 0, 0, 1, 4, 0));
            noImage(start, "31 minutes", Bench.sealed(0, 8, 0, 0, 0, 0, 0, 1, 3, 31));
            noImage(start, "31 minutes at the last STEP", Bench.sealed(0, 8, 0, 0, 0, 0, 0, 2, 0, 0, 1, 31));
            noImage(start, "no STREET between STEPS", Bench.sealed(0, 8, 0, 0, 0, 0, 0, 2, 0, 0, 3, 0));
            noImage(start, "two STEPS in one PLACE", Bench.sealed(0, 8, 0, 0, 0, 0, 0, 2, 0, 0, 0, 0));
            noImage(start, "a STEP fewer than told", Bench.sealed(0, 8, 0, 0, 0, 0, 0, 2, 0, 0));
            noImage(start, "a STEP more than told", Bench.sealed(0, 8, 0, 0, 0, 0, 0, 1, 0, 0, 1, 0));
            noImage(start, "31 STEPS", thirtyAndMore(31));
            Bench.due("on() of 30 STEPS", Bench.on(start.made(), thirtyAndMore(30)), true);
        }
        noImage(Starts.NEW, "nothing");
        noImage(Starts.NEW, "a PLACE that there is not", Bench.sealed(0, 0, 1, 0, 0));
    }

    private static int[] thirtyAndMore(int steps) {
        int[] ahead = new int[8 + 2 * steps];
        ahead[7] = steps;
        for (int k = 0; k < steps; k++) {
            ahead[8 + 2 * k] = k % 2;
        }
        return Bench.sealed(ahead);
    }

    private static void noImage(Starts.Start start, String why, int... image) {
        not(start, "on(): " + why, 5, x -> Bench.on(x, image));
        GreyRoute x = start.made();
        Bench.on(x, image);
        Bench.due("the tape goes, on(): " + why, x.end(1), false);
    }

    private static void asks(String call, ToLongFunction<GreyRoute> it) {
        for (Starts.Start start : Starts.ALL) {
            Starts.asks(start, call, it, -1);
        }
    }

    /** What is only asked for is no ACT and is never refused, though it may be NONE. */
    private static void askingChangesNothing() {
        for (int n : new int[] {-1, 100, FAR[0], FAR[1]}) {
            asks("fault(" + n + ")", x -> x.fault(n));
            asks("has(" + n + ")", x -> x.has(n));
            asks("letter(" + n + ", 0, 0)", x -> x.letter(n, 0, 0));
            asks("letter(0, " + n + ", 0)", x -> x.letter(0, n, 0));
            asks("letter(0, 0, " + n + ")", x -> x.letter(0, 0, n));
            asks("street(" + n + ", 0)", x -> x.street(n, 0));
            asks("street(0, " + n + ")", x -> x.street(0, n));
            asks("way(" + n + ", 0)", x -> x.way(n, 0));
            asks("way(0, " + n + ")", x -> x.way(0, n));
            asks("thing(" + n + ", 0)", x -> x.thing(n, 0));
            asks("thing(0, " + n + ")", x -> x.thing(0, n));
            asks("step(" + n + ", 0)", x -> x.step(n, 0));
            asks("step(0, " + n + ")", x -> x.step(0, n));
            asks("year(" + n + ")", x -> x.year(n));
            asks("goes(" + n + ", 0)", x -> x.goes(n, 0));
            asks("goes(0, " + n + ")", x -> x.goes(0, n));
            asks("away(" + n + ")", x -> x.away(n));
            asks("by(" + n + ")", x -> x.by(n));
            asks("seats(" + n + ")", x -> x.seats(n));
            asks("later(" + n + ", 0)", x -> x.later(n, 0));
            asks("later(0, " + n + ")", x -> x.later(0, n));
            asks("missed(" + n + ")", x -> x.missed(n));
            asks("filled(" + n + ")", x -> x.filled(n));
            asks("filling(" + n + ", 0)", x -> x.filling(n, 0));
            asks("filling(1, " + n + ")", x -> x.filling(1, n));
            asks("asked(" + n + ", 0)", x -> x.asked(n, 0));
            asks("asked(1, " + n + ")", x -> x.asked(1, n));
            asks("kept(" + n + ", 0)", x -> x.kept(n, 0));
            asks("kept(0, " + n + ")", x -> x.kept(0, n));
            asks("octet(" + n + ")", x -> x.octet(n));
            asks("status(" + n + ")", x -> x.status(n));
        }
        asksOfAll();
    }

    /** Calls that go through YEARS leave no trace of them. */
    private static void asksOfAll() {
        Starts.Start shut = Starts.FIRST.then("a STREET SHUT", x -> x.shut(0, 1));
        Starts.asks(shut, "year(1)", x -> x.year(1), 4 + 2 + 2 + 2 + 3 + 1 + 2 + 4 + 4);
        Starts.asks(shut, "goes(2, 0)", x -> x.goes(2, 0), 1);
        Starts.asks(shut, "wall()", x -> x.wall(), 3);
        Starts.asks(shut, "away(3)", x -> x.away(3), -1);
        Starts.asks(shut, "away(4)", x -> x.away(4), 0);
        Starts.asks(shut, "by(3)", x -> x.by(3), -1);
        Starts.asks(shut, "by(2)", x -> x.by(2), 0);
        Starts.asks(shut, "seats(2)", x -> x.seats(2), 2 | 4);
        Starts.asks(shut, "later(39, 0)", x -> x.later(39, 0), 3);
        Starts.asks(shut, "missed(2)", x -> x.missed(2), -1);
        Starts.asks(shut, "held()", x -> x.held(), 1);
        Starts.asks(shut, "filled(1)", x -> x.filled(1), 4);
        Starts.asks(shut, "asked(1, 0)", x -> x.asked(1, 0), 0);
    }
}
