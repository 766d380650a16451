import java.util.function.Consumer;
import java.util.function.ToLongFunction;

/** Objects that have come some way, and what a call must leave as it was on each of them. */
final class Starts {
    /** Four PLACES (to pond no STREET goes), three STREETS, two THINGS, four STEPS. */
    static final String TOWN = "place inn;place mill;place gate;place pond;street inn to mill paces 3;street mill to gate paces 2;"
        + "street gate to inn paces 4;step inn for 1;step mill for 2;step gate for 3;step mill for 4;thing dog at inn pull 2;"
        + "thing cat at gate pull 1;stands told+pull+year%3;clever year=5;heat 9;hot 50;";

    static final Start NEW = new Start("a new object", x -> { });
    static final Start FIRST = new Start("a TOWN as at first", x -> Bench.town(x, TOWN));
    static final Start LIVED = new Start("a TOWN behind some ACTS", Starts::live);
    static final Start FULL = new Start("a TOWN with all that there can be", Starts::fill);
    static final Start[] ALL = {NEW, FIRST, LIVED, FULL};
    static final Start[] TOWNS = {FIRST, LIVED, FULL};

    private Starts() {
    }

    /** A way to make objects that are all the same. */
    static final class Start {
        private final String name;
        private final Consumer<GreyRoute> calls;

        Start(String name, Consumer<GreyRoute> calls) {
            this.name = name;
            this.calls = calls;
        }

        GreyRoute made() {
            GreyRoute x = new GreyRoute();
            calls.accept(x);
            return x;
        }

        Start then(String more, Consumer<GreyRoute> next) {
            return new Start(name + ", " + more, calls.andThen(next));
        }

        @Override
        public String toString() {
            return name;
        }
    }

    private static void live(GreyRoute x) {
        Bench.town(x, "place a;place a;");
        x.undo();
        Bench.town(x, TOWN);
        x.years(3);
        x.shut(1, 1);
        x.move(0, 3);
        x.chance(2);
        x.teach(2, 30);
        x.image();
        x.forget();
        x.teach(0, 7);
        Bench.half(x, 0, 1, 2, 1);
        x.seed(4711);
        x.shut(1, 0);
    }

    /** YEAR 999, 30 STEPS, 40 YEARS told as KEPT, 20 ACTS to be undone, 20 rows of a HALF. */
    private static void fill(GreyRoute x) {
        Bench.town(x, TOWN);
        for (int i = 0; i < 24; i++) {
            x.years(40);
        }
        x.years(39);
        x.image();
        for (int k = x.has(4); k < 30; k++) {
            x.teach(k % 2 == 0 ? 0 : 1, k);
        }
        Bench.half(x, new int[40]);
        x.seed(Integer.MAX_VALUE);
    }

    /** The call is refused, which counts once, and nothing else changes. */
    static void refused(Start start, String call, ToLongFunction<GreyRoute> it, long answer, int kind) {
        GreyRoute y = start.made();
        Bench.due(call + " on " + start, it.applyAsLong(y), answer);
        Bench.dueText("all behind " + call + " on " + start, Told.of(y, kind, 0), Told.of(start.made(), kind, 1));
    }

    /** The call only asks: nothing changes, and nothing counts as refused. */
    static void asks(Start start, String call, ToLongFunction<GreyRoute> it, long answer) {
        GreyRoute y = start.made();
        Bench.due(call + " on " + start, it.applyAsLong(y), answer);
        Bench.dueText("all behind " + call + " on " + start, Told.of(y, -1, 0), Told.of(start.made(), -1, 0));
    }

    static long number(boolean answer) {
        return answer ? 1 : 0;
    }
}
