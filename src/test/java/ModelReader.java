import java.util.ArrayList;
import java.util.List;
import java.util.Map;
import java.util.regex.Matcher;
import java.util.regex.Pattern;

/** The language of TOWNS once more: all words first, then what they tell. A FAULT is thrown. */
final class ModelReader {
    private static final List<String> OWN = List.of("place", "street", "to", "paces", "step", "for", "thing", "at", "pull", "stands",
        "clever", "heat", "hot", "year", "told", "been", "steps", "time", "loops", "if", "or", "and", "not", "all", "min", "max");
    private static final Pattern WORD = Pattern.compile("[a-z]+|[0-9]+|[^ \n]");

    /** A word of the text; bad tells where it is FAULT 1 whatever may stand there, or is below 0. */
    private record Word(String text, int at, int bad) {
        boolean isName() {
            return bad < 0 && text.matches("[a-z]+") && !OWN.contains(text);
        }

        boolean isNumber() {
            return bad < 0 && text.matches("[0-9]+");
        }
    }

    private final List<Word> words = new ArrayList<>();
    private final Model.Town town = new Model.Town();
    private int next = 0;
    private int open = 0;
    private List<String> figures = List.of();

    ModelReader(String text) {
        Matcher m = WORD.matcher(text);
        int behind = -1;
        while (m.find()) {
            String word = m.group();
            boolean letters = word.matches("[a-z]+");
            boolean digits = word.matches("[0-9]+");
            int bad = -1;
            if (letters && word.length() > 6) {
                bad = m.start() + 6;
            } else if (digits && word.length() > 4) {
                bad = m.start() + 4;
            } else if ((letters || digits) && m.start() == behind) {
                bad = m.start();
            }
            words.add(new Word(word, m.start(), bad));
            behind = letters || digits ? m.end() : -1;
        }
        words.add(new Word("", text.length(), -1));
    }

    private Word word() {
        return words.get(next);
    }

    private Model.Fault fault(int number) {
        return new Model.Fault(number, word().at);
    }

    private Model.Fault unfit() {
        return new Model.Fault(1, word().bad >= 0 ? word().bad : word().at);
    }

    private boolean is(String text) {
        return word().bad < 0 && word().text.equals(text);
    }

    private void need(String text) {
        if (!is(text)) {
            throw unfit();
        }
        next++;
    }

    private boolean take(String text) {
        if (is(text)) {
            next++;
            return true;
        }
        return false;
    }

    Model.Town town() {
        while (next < words.size() - 1) {
            if (town.statements == 80) {
                throw fault(6);
            }
            statement();
            need(";");
            town.statements++;
        }
        return town;
    }

    private void statement() {
        if (is("place")) {
            limit(town.places.size(), 8);
            town.places.add(newName());
        } else if (is("street")) {
            limit(town.streets.size(), 14);
            street();
        } else if (is("step")) {
            limit(town.steps.size(), 20);
            step();
        } else if (is("thing")) {
            limit(town.things.size(), 8);
            String name = newName();
            need("at");
            int place = place();
            need("pull");
            town.pulls.add(number(0, 9));
            town.things.add(name);
            town.thingPlaces.add(place);
        } else if (is("stands")) {
            limit(town.stands == null ? 0 : 1, 1);
            figures = List.of("heat", "year", "told", "pull", "step", "been");
            town.stands = sum();
        } else if (is("clever")) {
            limit(town.clever == null ? 0 : 1, 1);
            figures = List.of("heat", "year", "steps", "time", "loops");
            town.clever = test();
        } else if (take("heat")) {
            town.heat = number(0, 40);
        } else if (take("hot")) {
            town.hot = number(0, 100);
        } else {
            throw unfit();
        }
    }

    private void limit(int there, int most) {
        if (there >= most) {
            throw fault(6);
        }
        next++;
    }

    private void street() {
        int from = place();
        need("to");
        Model.Fault atSecond = fault(3);
        int to = place();
        if (from == to || town.street(from, to) >= 0) {
            throw atSecond;
        }
        need("paces");
        town.streets.add(new Model.Street(from, to, number(1, 99)));
    }

    private void step() {
        Model.Fault atName = fault(3);
        int place = place();
        int many = town.steps.size();
        if (many > 0 && town.street(town.steps.get(many - 1).place(), place) < 0) {
            throw atName;
        }
        need("for");
        town.steps.add(new Model.Step(place, number(0, 30)));
    }

    private String newName() {
        if (!word().isName()) {
            throw unfit();
        }
        if (town.places.contains(word().text) || town.things.contains(word().text)) {
            throw fault(2);
        }
        return words.get(next++).text;
    }

    private int place() {
        if (!word().isName()) {
            throw unfit();
        }
        int place = town.places.indexOf(word().text);
        if (place < 0) {
            throw fault(3);
        }
        next++;
        return place;
    }

    private int number(int least, int most) {
        if (!word().isNumber()) {
            throw unfit();
        }
        int number = Integer.parseInt(word().text);
        if (number < least || number > most) {
            throw fault(4);
        }
        next++;
        return number;
    }

    private void opens(String text) {
        if (!is(text)) {
            throw unfit();
        }
        if (open == 7) {
            throw fault(5);
        }
        open++;
        next++;
    }

    private void closes(String text) {
        need(text);
        open--;
    }

    private static long limited(long x) {
        return Math.max(-1000000, Math.min(1000000, x));
    }

    private static long divided(long a, long b) {
        return b == 0 ? 0 : (long) Math.floor((double) a / b);
    }

    private Model.Sum sum() {
        Model.Sum all = product();
        while (is("+") || is("-")) {
            boolean plus = words.get(next++).text.equals("+");
            Model.Sum left = all;
            Model.Sum right = product();
            all = f -> limited(left.apply(f) + (plus ? right.apply(f) : -right.apply(f)));
        }
        return all;
    }

    private Model.Sum product() {
        Model.Sum all = part();
        while (is("*") || is("/") || is("%")) {
            String sign = words.get(next++).text;
            Model.Sum left = all;
            Model.Sum right = part();
            all = f -> {
                long a = left.apply(f);
                long b = right.apply(f);
                long less = b == 0 ? 0 : a - b * divided(a, b);
                return limited(sign.equals("*") ? a * b : sign.equals("/") ? divided(a, b) : less);
            };
        }
        return all;
    }

    private Model.Sum part() {
        if (word().isNumber()) {
            long n = Long.parseLong(words.get(next++).text);
            return f -> n;
        }
        if (word().bad < 0 && figures.contains(word().text)) {
            String figure = words.get(next++).text;
            return f -> (long) f.get(figure);
        }
        if (is("(")) {
            opens("(");
            Model.Sum inside = sum();
            closes(")");
            return inside;
        }
        boolean min = is("min");
        if (min || is("max")) {
            next++;
            opens("(");
            Model.Sum a = sum();
            need(",");
            Model.Sum b = sum();
            closes(")");
            return f -> min ? Math.min(a.apply(f), b.apply(f)) : Math.max(a.apply(f), b.apply(f));
        }
        need("if");
        opens("(");
        Model.Fact test = test();
        need(",");
        Model.Sum a = sum();
        need(",");
        Model.Sum b = sum();
        closes(")");
        return f -> test.apply(f) ? a.apply(f) : b.apply(f);
    }

    private Model.Fact test() {
        Model.Fact all = both();
        while (take("or")) {
            Model.Fact left = all;
            Model.Fact right = both();
            all = f -> left.apply(f) || right.apply(f);
        }
        return all;
    }

    private Model.Fact both() {
        Model.Fact all = fact();
        while (take("and")) {
            Model.Fact left = all;
            Model.Fact right = fact();
            all = f -> left.apply(f) && right.apply(f);
        }
        return all;
    }

    private Model.Fact fact() {
        if (is("not")) {
            opens("not");
            Model.Fact inside = fact();
            open--;
            return f -> !inside.apply(f);
        }
        if (is("[")) {
            opens("[");
            Model.Fact inside = test();
            closes("]");
            return inside;
        }
        if (take("all")) {
            return f -> true;
        }
        Model.Sum a = sum();
        if (!is("<") && !is(">") && !is("=")) {
            throw unfit();
        }
        String sign = words.get(next++).text;
        Model.Sum b = sum();
        return f -> {
            int order = Long.compare(a.apply(f), b.apply(f));
            return sign.equals("<") ? order < 0 : sign.equals(">") ? order > 0 : order == 0;
        };
    }
}
