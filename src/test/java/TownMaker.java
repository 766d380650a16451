import java.util.ArrayList;
import java.util.List;
import java.util.Random;

/** Makes texts of TOWNS by chance, and spoils them a little. */
final class TownMaker {
    private static final String[] STANDS = {"heat", "year", "told", "pull", "step", "been"};
    private static final String[] CLEVER = {"heat", "year", "steps", "time", "loops"};

    private final Random random;

    TownMaker(Random random) {
        this.random = random;
    }

    private int to(int bound) {
        return random.nextInt(bound);
    }

    private String blank() {
        return to(12) == 0 ? "\n" : to(12) == 0 ? "  " : " ";
    }

    private String loose() {
        return to(12) == 0 ? blank() : "";
    }

    String text() {
        List<String> all = new ArrayList<>();
        int places = 1 + to(8);
        int shift = to(3);
        for (int i = 0; i < places; i++) {
            all.add("place" + blank() + name(i, shift));
        }
        List<int[]> streets = new ArrayList<>();
        int tries = to(30);
        for (int i = 0; i < tries && streets.size() < 14; i++) {
            int a = to(places);
            int b = to(places);
            if (a != b && streets.stream().noneMatch(s -> s[0] == a && s[1] == b || s[0] == b && s[1] == a)) {
                streets.add(new int[] {a, b});
                int paces = to(3) == 0 ? 1 + to(99) : 1 + to(4);
                all.add("street" + blank() + name(a, shift) + blank() + "to" + blank() + name(b, shift) + blank() + "paces" + blank() + paces);
            }
        }
        addSteps(all, places, shift, streets);
        int things = to(9);
        for (int i = 0; i < things; i++) {
            all.add("thing" + blank() + name(20 + i, shift) + blank() + "at" + blank() + name(to(places), shift) + blank() + "pull" + blank() + to(10));
        }
        if (to(5) > 0) {
            all.add("stands" + blank() + sum(STANDS, 0));
        }
        if (to(4) > 0) {
            all.add("clever" + blank() + test(CLEVER, 0));
        }
        for (int i = to(3); i > 0; i--) {
            all.add("heat" + blank() + to(41));
        }
        for (int i = to(3); i > 0; i--) {
            all.add("hot" + blank() + to(101));
        }
        StringBuilder text = new StringBuilder();
        for (String statement : all) {
            text.append(loose()).append(statement).append(loose()).append(';');
        }
        return text.length() > 1580 ? text() : text.append(loose()).toString();
    }

    private static String name(int i, int shift) {
        String one = String.valueOf((char) ('a' + (i * 3 + shift) % 26));
        return i >= 20 ? "q" + one : i % 3 == 2 ? one + "xyzzy" : one;
    }

    private void addSteps(List<String> all, int places, int shift, List<int[]> streets) {
        int steps = to(4) == 0 ? to(4) : to(21);
        int at = to(places);
        for (int i = 0; i < steps; i++) {
            all.add("step" + blank() + name(at, shift) + blank() + "for" + blank() + to(31));
            List<Integer> next = new ArrayList<>();
            for (int[] s : streets) {
                if (s[0] == at || s[1] == at) {
                    next.add(s[0] + s[1] - at);
                }
            }
            if (next.isEmpty()) {
                return;
            }
            at = next.get(to(next.size()));
        }
    }

    private String sum(String[] figures, int depth) {
        StringBuilder all = new StringBuilder(product(figures, depth));
        for (int i = to(3); i > 0; i--) {
            all.append(loose()).append("+-".charAt(to(2))).append(loose()).append(product(figures, depth));
        }
        return all.toString();
    }

    private String product(String[] figures, int depth) {
        StringBuilder all = new StringBuilder(part(figures, depth));
        for (int i = to(5) == 0 ? 2 : to(2); i > 0; i--) {
            all.append(loose()).append("*/%".charAt(to(3))).append(loose()).append(part(figures, depth));
        }
        return all.toString();
    }

    private String part(String[] figures, int depth) {
        switch (depth > 4 ? to(7) : to(11)) {
            case 0: case 1: return "" + to(10);
            case 2: return "" + to(10000);
            case 3: case 4: case 5: case 6: return figures[to(figures.length)];
            case 7: return "(" + loose() + sum(figures, depth + 1) + loose() + ")";
            case 8: return "min" + loose() + "(" + sum(figures, depth + 1) + loose() + "," + sum(figures, depth + 1) + ")";
            case 9: return "max(" + sum(figures, depth + 1) + "," + loose() + sum(figures, depth + 1) + ")";
            default: return "if(" + test(figures, depth + 1) + "," + sum(figures, depth + 1) + "," + sum(figures, depth + 1) + ")";
        }
    }

    private String test(String[] figures, int depth) {
        StringBuilder all = new StringBuilder(fact(figures, depth));
        for (int i = to(3); i > 0; i--) {
            all.append(to(2) == 0 ? " or " : " and ").append(fact(figures, depth));
        }
        return all.toString();
    }

    private String fact(String[] figures, int depth) {
        switch (depth > 4 ? 3 : to(8)) {
            case 0: return "not " + fact(figures, depth + 1);
            case 1: return "[" + loose() + test(figures, depth + 1) + loose() + "]";
            case 2: return "all";
            default: return sum(figures, depth) + loose() + "<>=".charAt(to(3)) + loose() + sum(figures, depth);
        }
    }

    /** A byte or a word taken out, put in, or put in another's place. */
    String spoilt(String text) {
        if (text.isEmpty()) {
            return ";";
        }
        int at = to(text.length());
        String[] words = {"place", "to", "heat", "all", "not ", "(", ")", "[", "]", ",", ";", "+", "<", "0", "99", "100", "x", " ", "stands ",
            "steps", "time", "told", "((((((((", "not not not not not not not not ", "" + (char) 200, "A", "12345", "abcdefg", "min(", "if("};
        String word = words[to(words.length)];
        switch (to(5)) {
            case 0: return text.substring(0, at);
            case 1: return text.substring(0, at) + text.substring(at + 1);
            case 2: return text.substring(0, at) + word + text.substring(at + 1);
            case 3: return text.substring(0, at) + word + text.substring(at);
            default:
                int from = to(text.length());
                int behind = Math.min(text.length(), from + 1 + to(12));
                return text.substring(0, at) + text.substring(from, behind) + text.substring(at);
        }
    }
}
