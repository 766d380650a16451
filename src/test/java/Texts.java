/** What the tests share about texts of TOWNS. A ^ in a text marks where the FAULT is due. */
final class Texts {
    static final String[] OWN_WORDS = {"place", "street", "to", "paces", "step", "for", "thing", "at", "pull", "stands", "clever", "heat",
        "hot", "year", "told", "been", "steps", "time", "loops", "if", "or", "and", "not", "all", "min", "max"};

    private Texts() {
    }

    /** The town() is refused with this FAULT at the mark, and the tape goes. */
    static void fault(int number, String marked) {
        int at = marked.indexOf('^');
        String text = marked.substring(0, at) + marked.substring(at + 1);
        GreyRoute x = new GreyRoute();
        Bench.due("town() of " + marked, Bench.town(x, text), -1);
        Bench.due("fault(0) of " + marked, x.fault(0), number);
        Bench.due("fault(1) of " + marked, x.fault(1), at);
        Bench.due("status(1) of " + marked, x.status(1), 1);
        Bench.due("feed() behind " + marked, x.feed(0, 0, 0, 0, 0), 20);
    }

    /** The town() is not refused, and the tape goes. */
    static void good(int statements, String text) {
        GreyRoute x = new GreyRoute();
        Bench.due("town() of " + text, Bench.town(x, text), statements);
        Bench.due("fault(0) of " + text, x.fault(0), 0);
        Bench.due("fault(1) of " + text, x.fault(1), -1);
        Bench.due("status(1) of " + text, x.status(1), 0);
        Bench.due("feed() behind " + text, x.feed(0, 0, 0, 0, 0), 20);
    }

    static String places(int many) {
        StringBuilder all = new StringBuilder();
        for (int i = 0; i < many; i++) {
            all.append("place ").append((char) ('a' + i)).append(';');
        }
        return all.toString();
    }

    /** A wheel on eight PLACES, a in its middle: the STREETS from there first (7), then round it (7). */
    static String wheel(int many, int paces) {
        StringBuilder all = new StringBuilder();
        for (int i = 0; i < many; i++) {
            char from = i < 7 ? 'a' : (char) ('b' + i - 7);
            char to = i < 7 ? (char) ('b' + i) : (char) ('b' + (i - 6) % 7);
            all.append("street ").append(from).append(" to ").append(to).append(" paces ").append(paces).append(';');
        }
        return all.toString();
    }

    /** STEPS to and fro between two PLACES. */
    static String steps(int many, String one, String other, int minutes) {
        StringBuilder all = new StringBuilder();
        for (int i = 0; i < many; i++) {
            all.append("step ").append(i % 2 == 0 ? one : other).append(" for ").append(minutes).append(';');
        }
        return all.toString();
    }

    static String things(int many, String place, int pull) {
        StringBuilder all = new StringBuilder();
        for (int i = 0; i < many; i++) {
            all.append("thing t").append((char) ('a' + i)).append(" at ").append(place).append(" pull ").append(pull).append(';');
        }
        return all.toString();
    }

    static String times(int many, String text) {
        return text.repeat(many);
    }
}
