/** Promises 1 and 6 to 11: a new object, and what is told of a TOWN and its ROUTE. */
public final class TellTest {
    private static final String TOWN = "place mill;place inn;place abcxyz;place d;place e;street mill to inn paces 5;"
        + "street abcxyz to inn paces 4;street mill to d paces 9;street d to abcxyz paces 99;thing dog at inn pull 9;"
        + "thing zz at e pull 0;step inn for 30;step mill for 0;step d for 7;";

    public static void main(String[] args) {
        newObject();
        counts();
        letters();
        streets();
        ways();
        things();
        steps();
        Bench.finish();
    }

    private static void newObject() {
        GreyRoute x = new GreyRoute();
        int[] has = {0, 0, 0, 0, 0, 0, 0, 0, 0, 1};
        for (int i = 0; i < has.length; i++) {
            Bench.due("new: has(" + i + ")", x.has(i), has[i]);
        }
        for (int i = 0; i < 6; i++) {
            Bench.due("new: status(" + i + ")", x.status(i), 0);
        }
        Bench.due("new: fault(0)", x.fault(0), 0);
        Bench.due("new: fault(1)", x.fault(1), -1);
        Bench.due("new: octet(0)", x.octet(0), -1);
        Bench.due("new: kept(0, 0)", x.kept(0, 0), -1);
        Bench.due("new: letter(0, 0, 0)", x.letter(0, 0, 0), -1);
        Bench.due("new: street(0, 0)", x.street(0, 0), -1);
        Bench.due("new: thing(0, 0)", x.thing(0, 0), -1);
        Bench.due("new: step(0, 0)", x.step(0, 0), -1);
        Bench.due("new: way(0, 0)", x.way(0, 0), -1);
        Bench.due("new: feed()", x.feed(0, 0, 0, 0, 0), 20);
    }

    private static void counts() {
        GreyRoute x = Bench.made(TOWN);
        int[] has = {5, 4, 2, 0, 3, 0, 0, 0, 0, 1};
        for (int i = 0; i < has.length; i++) {
            Bench.due("has(" + i + ")", x.has(i), has[i]);
        }
        Bench.due("has(10)", x.has(10), -1);
        Bench.due("has(-1)", x.has(-1), -1);
        Bench.due("has(2147483647)", x.has(Integer.MAX_VALUE), -1);
        x.years(3);
        x.shut(2, 1);
        x.shut(0, 1);
        Bench.half(x, 0, 0, 1, 1, 2, 2);
        x.seed(5);
        int[] later = {5, 4, 2, 3, 3, 2, 3, 3, 3, 5};
        for (int i = 0; i < later.length; i++) {
            Bench.due("later: has(" + i + ")", x.has(i), later[i]);
        }
    }

    private static void letters() {
        GreyRoute x = Bench.made(TOWN);
        int[][] names = {{13, 9, 12, 12, 0, 0}, {9, 14, 14, 0, 0, 0}, {1, 2, 3, 24, 25, 26}, {4, 0, 0, 0, 0, 0}};
        for (int which = 0; which < names.length; which++) {
            for (int k = 0; k < 6; k++) {
                Bench.due("letter(0, " + which + ", " + k + ")", x.letter(0, which, k), names[which][k]);
            }
        }
        Bench.due("letter(1, 0, 0)", x.letter(1, 0, 0), 4);
        Bench.due("letter(1, 0, 2)", x.letter(1, 0, 2), 7);
        Bench.due("letter(1, 1, 0)", x.letter(1, 1, 0), 26);
        Bench.due("letter(1, 1, 2)", x.letter(1, 1, 2), 0);
        Bench.due("letter(1, 2, 0)", x.letter(1, 2, 0), -1);
        Bench.due("letter(0, 5, 0)", x.letter(0, 5, 0), -1);
        Bench.due("letter(0, -1, 0)", x.letter(0, -1, 0), -1);
        Bench.due("letter(1, -1, 0)", x.letter(1, -1, 0), -1);
        Bench.due("letter(2, 0, 0)", x.letter(2, 0, 0), -1);
        Bench.due("letter(-1, 0, 0)", x.letter(-1, 0, 0), -1);
        Bench.due("letter(0, 0, 6)", x.letter(0, 0, 6), -1);
        Bench.due("letter(0, 0, -1)", x.letter(0, 0, -1), -1);
    }

    private static void streets() {
        GreyRoute x = Bench.made(TOWN);
        int[][] told = {{0, 1, 5}, {2, 1, 4}, {0, 3, 9}, {3, 2, 99}};
        for (int i = 0; i < told.length; i++) {
            for (int what = 0; what < 3; what++) {
                Bench.due("street(" + i + ", " + what + ")", x.street(i, what), told[i][what]);
            }
            Bench.due("street(" + i + ", 3)", x.street(i, 3), 0);
        }
        x.shut(3, 1);
        Bench.due("street(3, 3), shut", x.street(3, 3), 1);
        Bench.due("street(2, 3), not shut", x.street(2, 3), 0);
        x.shut(3, 0);
        Bench.due("street(3, 3), no more", x.street(3, 3), 0);
        Bench.due("street(4, 0)", x.street(4, 0), -1);
        Bench.due("street(-1, 0)", x.street(-1, 0), -1);
        Bench.due("street(0, 4)", x.street(0, 4), -1);
        Bench.due("street(0, -1)", x.street(0, -1), -1);
    }

    private static void ways() {
        GreyRoute x = Bench.made(TOWN);
        int[][] paces = {{0, 5, 9, 9, -1}, {5, 0, 4, 14, -1}, {9, 4, 0, 18, -1}, {9, 14, 18, 0, -1}, {-1, -1, -1, -1, 0}};
        for (int from = 0; from < 5; from++) {
            for (int to = 0; to < 5; to++) {
                Bench.due("way(" + from + ", " + to + ")", x.way(from, to), paces[from][to]);
            }
        }
        Bench.due("way(0, 5)", x.way(0, 5), -1);
        Bench.due("way(5, 0)", x.way(5, 0), -1);
        Bench.due("way(-1, 0)", x.way(-1, 0), -1);
        Bench.due("way(0, -1)", x.way(0, -1), -1);
        Bench.due("way(7, 7)", x.way(7, 7), -1);
        x.shut(0, 1);
        Bench.due("way(0, 1), round", x.way(0, 1), 112);
        x.shut(2, 1);
        Bench.due("way(0, 1), none", x.way(0, 1), -1);
        Bench.due("way(0, 0), still", x.way(0, 0), 0);
        Bench.due("way(1, 3), still", x.way(1, 3), 103);
    }

    private static void things() {
        GreyRoute x = Bench.made(TOWN);
        Bench.due("thing(0, 0)", x.thing(0, 0), 1);
        Bench.due("thing(0, 1)", x.thing(0, 1), 9);
        Bench.due("thing(1, 0)", x.thing(1, 0), 4);
        Bench.due("thing(1, 1)", x.thing(1, 1), 0);
        Bench.due("thing(2, 0)", x.thing(2, 0), -1);
        Bench.due("thing(-1, 0)", x.thing(-1, 0), -1);
        Bench.due("thing(0, 2)", x.thing(0, 2), -1);
        Bench.due("thing(0, -1)", x.thing(0, -1), -1);
        x.move(0, 2);
        Bench.due("thing(0, 0), moved", x.thing(0, 0), 2);
        Bench.due("thing(1, 0), not moved", x.thing(1, 0), 4);
    }

    private static void steps() {
        GreyRoute x = Bench.made(TOWN);
        Bench.dueText("the ROUTE", Bench.route(x), "1:30 0:0 3:7");
        Bench.due("step(3, 0)", x.step(3, 0), -1);
        Bench.due("step(-1, 0)", x.step(-1, 0), -1);
        Bench.due("step(0, 2)", x.step(0, 2), -1);
        Bench.due("step(0, -1)", x.step(0, -1), -1);
        // told as it is ahead of this YEAR, though the YEAR goes another way
        x.shut(0, 1);
        Bench.dueText("the ROUTE, a STREET shut", Bench.route(x), "1:30 0:0 3:7");
        x.years(1);
        Bench.dueText("the ROUTE behind the YEAR", Bench.route(x), "1:30 2:0 3:0 0:0 3:7");
    }
}
