import java.util.Arrays;

/** Promises 34 to 37: images, and how many were refused. */
public final class ImageTest {
    private static final String TOWN = "place a;place b;place c;street a to b paces 3;street b to c paces 2;"
        + "step a for 1;step b for 30;thing t at a pull 2;thing u at c pull 1;";

    public static void main(String[] args) {
        written();
        taken();
        largest();
        refused();
        newObject();
        status();
        Bench.finish();
    }

    private static void image(String which, GreyRoute x, int... due) {
        Bench.dueText(which, Arrays.toString(Bench.image(x)), Arrays.toString(Bench.sealed(due)));
    }

    private static void written() {
        GreyRoute x = Bench.made(TOWN);
        Bench.due("octet(0) ahead of image()", x.octet(0), -1);
        image("as told", x, 0, 0, 0, 0, 0, 2, 2, 0, 1, 1, 30);
        Bench.due("image()", x.image(), 12);
        Bench.due("octet(12)", x.octet(12), -1);
        Bench.due("octet(-1)", x.octet(-1), -1);
        x.shut(1, 1);
        x.move(0, 1);
        x.forget();
        for (int i = 0; i < 10; i++) {
            x.years(40);
        }
        Bench.due("octet(1), the latest image()", x.octet(1), 0);
        Bench.due("octet(11), the latest image()", x.octet(11) >= 0, true);
        image("later", x, 1, 144, 0, 1, 1, 2, 1, 0, 1);
        Bench.due("octet(10), shorter now", x.octet(10), -1);
        image("a new object", new GreyRoute(), 0, 0, 0);
    }

    private static void taken() {
        GreyRoute x = Bench.made(TOWN + "hot 50;");
        x.years(3);
        x.chance(2);
        x.shut(0, 1);
        x.seed(9);
        Bench.half(x, 0, 1);
        int[] image = Bench.sealed(3, 231, 0, 1, 2, 0, 4, 1, 30, 2, 0, 1, 7, 0, 0);
        Bench.due("on()", Bench.on(x, image), true);
        int[] has = {3, 2, 2, 999, 4, 1, 0, 1, 0, 9};
        for (int i = 0; i < has.length; i++) {
            Bench.due("has(" + i + ")", x.has(i), has[i]);
        }
        Bench.dueText("the ROUTE", Bench.route(x), "1:30 2:0 1:7 0:0");
        Bench.due("street(0, 3)", x.street(0, 3), 0);
        Bench.due("street(1, 3)", x.street(1, 3), 1);
        Bench.due("thing(0, 0)", x.thing(0, 0), 2);
        Bench.due("thing(1, 0)", x.thing(1, 0), 0);
        Bench.due("undo()", x.undo(), false);
        Bench.due("kept(0, 0)", x.kept(0, 0), -1);
        Bench.due("the tape went", x.feed(0, 0, 0, 0, 0), 20);
        Bench.due("the same image again", Arrays.equals(Bench.image(x), image), true);
        x.end(0);
        Bench.due("no STEPS", Bench.on(x, Bench.sealed(0, 0, 0, 0, 0, 0, 0)), true);
        Bench.due("has(4)", x.has(4), 0);
        int[] thirty = new int[2 + 2 + 2 + 1 + 60];
        thirty[6] = 30;
        for (int k = 0; k < 30; k++) {
            thirty[7 + 2 * k] = k % 2;
            thirty[8 + 2 * k] = 30;
        }
        Bench.due("30 STEPS", Bench.on(x, Bench.sealed(thirty)), true);
        Bench.due("has(4)", x.has(4), 30);
        int[] more = Arrays.copyOf(thirty, thirty.length + 2);
        more[6] = 31;
        Bench.due("31 STEPS", Bench.on(x, Bench.sealed(more)), false);
    }

    /** All STREETS, THINGS and STEPS that there can be. */
    private static void largest() {
        StringBuilder text = new StringBuilder();
        for (char c = 'a'; c <= 'h'; c++) {
            text.append("place ").append(c).append(";thing t").append(c).append(" at ").append(c).append(" pull 1;");
        }
        for (char c = 'b'; c <= 'h'; c++) {
            text.append("street a to ").append(c).append(" paces 1;");
            text.append("street ").append(c).append(" to ").append(c == 'h' ? 'b' : (char) (c + 1)).append(" paces 1;");
        }
        GreyRoute x = Bench.made(text.toString());
        for (int k = 0; k < 30; k++) {
            x.teach(k % 8, k);
        }
        for (int i = 0; i < 14; i++) {
            x.shut(i, 1);
        }
        Bench.due("image(), the largest", x.image(), 2 + 14 + 8 + 1 + 60 + 1);
        int[] image = Bench.image(x);
        Bench.due("octet(15)", image[15], 1);
        Bench.due("octet(23)", image[23], 7);
        Bench.due("octet(24)", image[24], 30);
        Bench.due("octet(84)", image[84], 29);
        Bench.dueText("its last byte", Arrays.toString(Bench.sealed(Arrays.copyOf(image, 85))), Arrays.toString(image));
        GreyRoute y = Bench.made(text.toString());
        Bench.due("on(), the largest", Bench.on(y, image), true);
        Bench.dueText("the same", Arrays.toString(Bench.image(y)), Arrays.toString(image));
        Bench.due("has(5)", y.has(5), 14);
    }

    private static void no(String why, int... image) {
        GreyRoute x = Bench.made(TOWN);
        x.years(2);
        int before = x.status(5);
        int[] was = Bench.image(x);
        Bench.due("on(): " + why, Bench.on(x, image), false);
        Bench.due("refused: " + why, x.status(5), before + 1);
        Bench.due("all stays: " + why, Arrays.equals(was, Bench.image(x)), true);
        Bench.due("KEPT stays: " + why, x.has(6), 2);
        Bench.due("ACTS stay: " + why, x.has(8), 1);
        Bench.due("the tape goes: " + why, x.end(1), false);
    }

    private static void refused() {
        no("nothing");
        no("a byte", 197);
        int[] good = {0, 0, 0, 0, 0, 2, 2, 0, 1, 1, 30};
        int[] sealed = Bench.sealed(good);
        for (int i = 0; i < sealed.length; i++) {
            no("cut at " + i, Arrays.copyOf(sealed, i));
            int[] other = sealed.clone();
            other[i] = other[i] + 1 & 255;
            no("another byte " + i, other);
        }
        no("a byte more", Arrays.copyOf(sealed, sealed.length + 1));
        no("YEAR 1000", Bench.sealed(3, 232, 0, 0, 0, 2, 0));
        no("YEAR 65535", Bench.sealed(255, 255, 0, 0, 0, 2, 0));
        no("a STREET that is 2", Bench.sealed(0, 0, 2, 0, 0, 2, 0));
        no("a STREET that is 255", Bench.sealed(0, 0, 0, 255, 0, 2, 0));
        no("a THING nowhere", Bench.sealed(0, 0, 0, 0, 0, 3, 0));
        no("a STEP nowhere", Bench.sealed(0, 0, 0, 0, 0, 2, 1, 3, 0));
        no("31 minutes", Bench.sealed(0, 0, 0, 0, 0, 2, 1, 1, 31));
        no("no STREET", Bench.sealed(0, 0, 0, 0, 0, 2, 2, 0, 0, 2, 0));
        no("the same PLACE", Bench.sealed(0, 0, 0, 0, 0, 2, 2, 1, 0, 1, 0));
        no("fewer STEPS than told", Bench.sealed(0, 0, 0, 0, 0, 2, 2, 0, 0));
        no("more STEPS than told", Bench.sealed(0, 0, 0, 0, 0, 2, 1, 0, 0, 1, 0));
        GreyRoute x = Bench.made(TOWN);
        Bench.due("a SHUT STREET between STEPS", Bench.on(x, Bench.sealed(0, 0, 1, 0, 0, 2, 2, 0, 0, 1, 0)), true);
        Bench.due("street(0, 3)", x.street(0, 3), 1);
        Bench.due("street(1, 3)", x.street(1, 3), 0);
    }

    private static void newObject() {
        GreyRoute x = new GreyRoute();
        Bench.due("on()", Bench.on(x, Bench.sealed(0, 7, 0)), true);
        Bench.due("has(3)", x.has(3), 7);
        Bench.due("on(), a STEP", Bench.on(x, Bench.sealed(0, 7, 1, 0, 0)), false);
    }

    private static void status() {
        GreyRoute x = new GreyRoute();
        x.end(-1);
        x.end(1);
        x.feed(0, 0, 0, 0, 0);
        x.town();
        x.years(0);
        x.chance(0);
        x.years(41);
        x.shut(0, 1);
        x.move(0, 0);
        x.teach(0, 0);
        x.forget();
        x.undo();
        x.undo();
        x.undo();
        x.undo();
        x.undo();
        x.seed(-1);
        x.half();
        x.on();
        x.on();
        x.half();
        x.seed(-2);
        int[] due = {2, 1, 3, 4, 5, 6};
        for (int i = 0; i < due.length; i++) {
            Bench.due("status(" + i + ")", x.status(i), due[i]);
        }
        Bench.due("status(6)", x.status(6), -1);
        Bench.due("status(-1)", x.status(-1), -1);
        // an answer of NONE alone is not refused
        x.has(99);
        x.way(9, 9);
        x.away(99);
        x.filled(0);
        x.octet(99);
        x.status(99);
        for (int i = 0; i < due.length; i++) {
            Bench.due("status(" + i + "), still", x.status(i), due[i]);
        }
    }

    /** The run that README.md shows. */
}
