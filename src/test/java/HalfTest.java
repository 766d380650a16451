/** Promises 21 to 24: what half is told, the routes that are FILLED, and the STEP to ask for. */
public final class HalfTest {
    private static final String FOUR = "place a;place b;place c;place d;street a to b paces 1;street b to c paces 1;street c to d paces 1;"
        + "street a to c paces 1;";

    public static void main(String[] args) {
        half();
        filled();
        filling();
        asked();
        large();
        Bench.finish();
    }

    private static void half() {
        GreyRoute x = Bench.made(FOUR);
        Bench.due("half() of nothing", x.half(), -1);
        Bench.due("half() of a byte", Bench.half(x, 0), -1);
        Bench.due("half() of three bytes", Bench.half(x, 0, 0, 1), -1);
        Bench.due("half(), number 20", Bench.half(x, 20, 0), -1);
        Bench.due("half(), number 255", Bench.half(x, 255, 0), -1);
        Bench.due("half(), no such PLACE", Bench.half(x, 0, 4), -1);
        Bench.due("half(), the second row", Bench.half(x, 0, 0, 0, 200), -1);
        Bench.due("half(), the second row's number", Bench.half(x, 0, 0, 20, 0), -1);
        Bench.due("half(), the third row", Bench.half(x, 0, 0, 1, 1, 2, 4), -1);
        Bench.due("status(5)", x.status(5), 9);
        Bench.due("has(7)", x.has(7), 0);
        int[] rows = new int[42];
        Bench.due("half(), 21 rows", Bench.half(x, rows), -1);
        Bench.due("half(), 20 rows", Bench.half(x, java.util.Arrays.copyOf(rows, 40)), 20);
        Bench.due("has(7)", x.has(7), 20);
        Bench.due("half()", Bench.half(x, 19, 3), 1);
        Bench.due("has(7)", x.has(7), 1);
        Bench.due("half(), refused", Bench.half(x, 0, 9), -1);
        Bench.due("has(7), the HALF stays", x.has(7), 1);
        Bench.due("status(5)", x.status(5), 11);
        Bench.due("the tape went", x.feed(0, 0, 0, 0, 0), 20);
        x.end(0);
        // it stays with ACTS and images, and goes with the TOWN
        Bench.half(x, 1, 0);
        x.years(1);
        Bench.due("undo()", x.undo(), true);
        Bench.due("has(7)", x.has(7), 1);
        Bench.due("on()", Bench.on(x, Bench.image(x)), true);
        Bench.due("has(7)", x.has(7), 1);
        Bench.due("filled(2)", x.filled(2), 2);
        Bench.town(x, FOUR);
        Bench.due("has(7)", x.has(7), 0);
        Bench.due("filled(2)", x.filled(2), 8);
        Bench.due("half() without PLACES", Bench.half(new GreyRoute(), 0, 0), -1);
    }

    private static void filled() {
        GreyRoute x = Bench.made(FOUR);
        int[] due = {4, 8, 18};
        for (int n = 1; n <= 3; n++) {
            Bench.due("filled(" + n + ")", x.filled(n), due[n - 1]);
        }
        Bench.due("filled(0)", x.filled(0), -1);
        Bench.due("filled(-1)", x.filled(-1), -1);
        Bench.due("filled(21)", x.filled(21), -1);
        x.shut(0, 1);
        Bench.due("filled(3), a STREET SHUT", x.filled(3), 18);
        Bench.half(x, 1, 2);
        Bench.due("filled(1), a row beyond", x.filled(1), 0);
        Bench.due("filled(2)", x.filled(2), 3);
        Bench.due("filled(3)", x.filled(3), 9);
        Bench.half(x, 1, 2, 0, 3);
        Bench.due("filled(3), two rows", x.filled(3), 3);
        Bench.half(x, 1, 2, 0, 3, 1, 2);
        Bench.due("filled(3), a row twice", x.filled(3), 3);
        Bench.half(x, 1, 2, 1, 1);
        Bench.due("filled(3), two PLACES for a STEP", x.filled(3), 0);
        Bench.half(x, 0, 0, 1, 0);
        Bench.due("filled(3), no STREET", x.filled(3), 0);
        Bench.half(x, 19, 3);
        Bench.due("filled(19), a row beyond", x.filled(19), 0);
        Bench.due("filled(20) is more", x.filled(20) > 0, true);
        Bench.due("filled(1) without PLACES", new GreyRoute().filled(1), 0);
        GreyRoute y = Bench.made("place a;place b;");
        Bench.due("filled(1) without STREETS", y.filled(1), 2);
        Bench.due("filled(2) without STREETS", y.filled(2), 0);
    }

    private static void filling() {
        GreyRoute x = Bench.made(FOUR);
        int[] first = {0, 1, 0, 1};
        for (int k = 0; k < 4; k++) {
            Bench.due("filling(4, " + k + ")", x.filling(4, k), first[k]);
        }
        Bench.due("filling(1, 0)", x.filling(1, 0), 0);
        Bench.due("filling(20, 19)", x.filling(20, 19), 1);
        Bench.due("filling(4, 4)", x.filling(4, 4), -1);
        Bench.due("filling(4, 5)", x.filling(4, 5), -1);
        Bench.due("filling(4, -1)", x.filling(4, -1), -1);
        Bench.due("filling(0, 0)", x.filling(0, 0), -1);
        Bench.due("filling(21, 0)", x.filling(21, 0), -1);
        Bench.due("filling(-1, 0)", x.filling(-1, 0), -1);
        Bench.half(x, 3, 3);
        int[] toD = {0, 1, 2, 3};
        for (int k = 0; k < 4; k++) {
            Bench.due("filling(4, " + k + "), the last told", x.filling(4, k), toD[k]);
        }
        Bench.due("filling(5, 4)", x.filling(5, 4), 2);
        Bench.due("filling(3, 0), a row beyond", x.filling(3, 0), -1);
        Bench.half(x, 1, 3, 3, 3);
        int[] back = {2, 3, 2, 3};
        for (int k = 0; k < 4; k++) {
            Bench.due("filling(4, " + k + "), two told", x.filling(4, k), back[k]);
        }
        Bench.half(x, 0, 0, 1, 3);
        Bench.due("filling(4, 0), none", x.filling(4, 0), -1);
        Bench.due("filling(1, 0) without PLACES", new GreyRoute().filling(1, 0), -1);
    }

    private static void asked() {
        GreyRoute x = Bench.made(FOUR);
        Bench.due("asked(1, 0)", x.asked(1, 0), 0);
        Bench.due("asked(1, 1)", x.asked(1, 1), 1);
        Bench.due("asked(3, 0)", x.asked(3, 0), 0);
        Bench.due("asked(3, 1)", x.asked(3, 1), 5);
        Bench.due("asked(3, 2)", x.asked(3, 2), -1);
        Bench.due("asked(3, -1)", x.asked(3, -1), -1);
        Bench.due("asked(0, 0)", x.asked(0, 0), -1);
        Bench.due("asked(21, 0)", x.asked(21, 0), -1);
        Bench.half(x, 0, 2);
        // from c: by a, b or d, each a third; at the end a 1, b 1, c 3
        Bench.due("filled(3)", x.filled(3), 5);
        Bench.due("asked(3, 0), the first told", x.asked(3, 0), 1);
        Bench.due("asked(3, 1), the first told", x.asked(3, 1), 2);
        Bench.half(x, 0, 3, 1, 2);
        Bench.due("asked(3, 0), two told", x.asked(3, 0), 2);
        Bench.due("asked(3, 1), two told", x.asked(3, 1), 1);
        Bench.half(x, 0, 3, 1, 2, 2, 0);
        Bench.due("asked(3, 0), all told", x.asked(3, 0), 0);
        Bench.due("asked(3, 1), all told", x.asked(3, 1), 1);
        Bench.due("asked(2, 0), a row beyond", x.asked(2, 0), -1);
        Bench.due("asked(2, 1), a row beyond", x.asked(2, 1), -1);
        Bench.due("asked(1, 0) without PLACES", new GreyRoute().asked(1, 0), -1);
    }

    /** A wheel: a in the middle, seven round it, 14 STREETS in all. */
    private static void large() {
        StringBuilder text = new StringBuilder();
        for (char c = 'a'; c <= 'h'; c++) {
            text.append("place ").append(c).append(';');
        }
        for (char c = 'b'; c <= 'h'; c++) {
            text.append("street a to ").append(c).append(" paces 1;");
            text.append("street ").append(c).append(" to ").append(c == 'h' ? 'b' : (char) (c + 1)).append(" paces 1;");
        }
        GreyRoute x = Bench.made(text.toString());
        int n = 1;
        long middle = 1;
        long rim = 7;
        while (middle + rim <= 999999999) {
            Bench.due("filled(" + n + ")", x.filled(n), middle + rim);
            long next = rim;
            rim = 7 * middle + 2 * rim;
            middle = next;
            n++;
        }
        Bench.due("filled(" + n + "), too many", x.filled(n), 999999999);
        Bench.due("filled(20), too many", x.filled(20), 999999999);
        Bench.due("asked(20, 1), too many", x.asked(20, 1), 999999999);
        Bench.due("asked(20, 0)", x.asked(20, 0), 0);
        Bench.due("filling(20, 19)", x.filling(20, 19), 1);
        Bench.half(x, 0, 0);
        // the second STEP is in one of seven PLACES alike: fewest when counted whole, though all are above what is told
        Bench.due("asked(20, 1), the first told", x.asked(20, 1), 999999999);
        Bench.due("asked(20, 0), the first told", x.asked(20, 0), 1);
    }
}
