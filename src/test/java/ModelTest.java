import java.util.Random;

/** Random runs of calls on the class and on the Model side by side: every answer must be the same. */
public final class ModelTest {
    private static final int RUNS = Integer.getInteger("greyroute.runs", 600);
    private static final int CALLS = 130;
    /** An object has 512 calls; the longest that follows behind this many takes fewer than 200. */
    private static final int MOST_ANSWERS = 310;

    private final Random random;
    private final GreyRoute x = new GreyRoute();
    private final Model m = new Model();
    private final int run;
    private final StringBuilder told = new StringBuilder();
    private int answers = 0;

    private ModelTest(int run) {
        this.run = run;
        this.random = new Random(run * 7919L + 17);
    }

    public static void main(String[] args) {
        int first = Integer.getInteger("greyroute.first", 0);
        for (int run = first; run < first + RUNS; run++) {
            new ModelTest(run).play();
        }
        Bench.finish();
    }

    private int to(int bound) {
        return random.nextInt(bound);
    }

    /** Mostly a number that can be; now and then one beside, or far away. */
    private int some(int most) {
        int kind = to(30);
        if (kind == 0) {
            return random.nextInt();
        }
        return kind < 4 ? to(most + 4) - 2 : to(Math.max(1, most));
    }

    private void due(String call, long got, long want) {
        answers++;
        Bench.due("run " + run + ", town " + told + ": " + call, got, want);
    }

    private void due(String call, boolean got, int want) {
        due(call, got ? 1 : 0, want);
    }

    private void play() {
        newTown();
        for (int i = 0; i < CALLS && answers < MOST_ANSWERS; i++) {
            if (to(60) == 0) {
                newTown();
            } else {
                call(to(40));
            }
        }
        for (int what = -1; what <= 10; what++) {
            due("has(" + what + ")", x.has(what), m.has(what));
            due("status(" + what + ")", x.status(what), m.status(what));
        }
    }

    private void newTown() {
        TownMaker maker = new TownMaker(random);
        String text = maker.text();
        int spoil = to(3);
        for (int i = 0; i < spoil && to(2) == 0; i++) {
            text = maker.spoilt(text);
        }
        told.setLength(0);
        told.append(text.replace("\n", "\\n"));
        tape(Bench.bytes(text));
        due("town()", x.town(), m.town());
        for (int what = -1; what <= 2; what++) {
            due("fault(" + what + ")", x.fault(what), m.fault(what));
        }
        for (int what = 0; what <= 9; what++) {
            due("has(" + what + ")", x.has(what), m.has(what));
        }
    }

    private void tape(int... bytes) {
        if (bytes.length == 0) {
            due("end(0)", x.end(0), m.end(0));
        }
        for (int i = 0; i < bytes.length; i += 20) {
            int[] n = new int[5];
            for (int k = 0; k < 20; k++) {
                n[k / 4] = n[k / 4] << 8 | (i + k < bytes.length ? bytes[i + k] & 255 : to(256));
            }
            due("feed()", x.feed(n[0], n[1], n[2], n[3], n[4]), m.feed(n));
        }
        int n = to(40) == 0 ? some(bytes.length) : bytes.length;
        due("end(" + n + ")", x.end(n), m.end(n));
    }

    private void call(int which) {
        int places = m.has(0);
        int streets = m.has(1);
        int a;
        int b;
        int c;
        switch (which) {
            case 0: a = some(12); due("has(" + a + ")", x.has(a), m.has(a)); break;
            case 1: a = some(2); b = some(places); c = some(6); due("letter(" + a + "," + b + "," + c + ")", x.letter(a, b, c), m.letter(a, b, c)); break;
            case 2: a = some(streets); b = some(4); due("street(" + a + "," + b + ")", x.street(a, b), m.street(a, b)); break;
            case 3: a = some(places); b = some(places); due("way(" + a + "," + b + ")", x.way(a, b), m.way(a, b)); break;
            case 4: a = some(m.has(2)); b = some(2); due("thing(" + a + "," + b + ")", x.thing(a, b), m.thing(a, b)); break;
            case 5: a = some(m.has(4)); b = some(2); due("step(" + a + "," + b + ")", x.step(a, b), m.step(a, b)); break;
            case 6: a = some(4); due("year(" + a + ")", x.year(a), m.year(a)); break;
            case 7: a = some(m.has(4)); b = some(3); due("goes(" + a + "," + b + ")", x.goes(a, b), m.goes(a, b)); break;
            case 8: due("wall()", x.wall(), m.wall()); break;
            case 9: a = some(61); due("away(" + a + ")", x.away(a), m.away(a)); break;
            case 10: a = some(12); due("away(" + a + ")", x.away(a), m.away(a)); break;
            case 11: a = some(places); due("by(" + a + ")", x.by(a), m.by(a)); break;
            case 12: a = some(3) + 1; due("seats(" + a + ")", x.seats(a), m.seats(a)); break;
            case 13: a = some(40); b = some(2); due("later(" + a + "," + b + ")", x.later(a, b), m.later(a, b)); break;
            case 14: a = some(places); due("missed(" + a + ")", x.missed(a), m.missed(a)); break;
            case 15: due("held()", x.held(), m.held()); break;
            case 16: case 17: newHalf(places); break;
            case 18: a = some(20) + 1; due("filled(" + a + ")", x.filled(a), m.filled(a)); break;
            case 19: a = some(20) + 1; b = some(a < 1 || a > 20 ? 20 : a); due("filling(" + a + "," + b + ")", x.filling(a, b), m.filling(a, b)); break;
            case 20: a = some(20) + 1; b = some(2); due("asked(" + a + "," + b + ")", x.asked(a, b), m.asked(a, b)); break;
            case 21: case 22: a = 1 + some(to(2) == 0 ? 40 : 3); due("years(" + a + ")", x.years(a), m.years(a)); break;
            case 23: case 24: a = 1 + some(to(2) == 0 ? 40 : 3); due("chance(" + a + ")", x.chance(a), m.chance(a)); break;
            case 25: case 26: case 27: a = some(streets); b = some(2); due("shut(" + a + "," + b + ")", x.shut(a, b), m.shut(a, b)); break;
            case 28: a = some(m.has(2)); b = some(places); due("move(" + a + "," + b + ")", x.move(a, b), m.move(a, b)); break;
            case 29: case 30: case 31: a = some(places); b = some(31); due("teach(" + a + "," + b + ")", x.teach(a, b), m.teach(a, b)); break;
            case 32: due("forget()", x.forget(), m.forget()); break;
            case 33: case 34: due("undo()", x.undo(), m.undo()); break;
            case 35: a = to(5) == 0 ? random.nextInt() : to(Integer.MAX_VALUE); due("seed(" + a + ")", x.seed(a), m.seed(a)); break;
            case 36: a = some(m.has(6)); b = some(3); due("kept(" + a + "," + b + ")", x.kept(a, b), m.kept(a, b)); break;
            case 37: wholeImage(); break;
            case 38: newImage(); break;
            default: wholeYear(); break;
        }
    }

    private void newHalf(int places) {
        int[] rows = new int[2 * (1 + to(to(4) == 0 ? 20 : 3)) + (to(12) == 0 ? 1 : 0)];
        for (int i = 0; i < rows.length; i++) {
            rows[i] = Math.floorMod(i % 2 == 0 ? to(2) == 0 ? to(4) : some(20) : some(places), 256);
        }
        tape(rows);
        due("half()", x.half(), m.half());
        due("has(7)", x.has(7), m.has(7));
    }

    private void wholeImage() {
        int size = m.image();
        due("image()", x.image(), size);
        for (int k = -1; k <= size; k++) {
            due("octet(" + k + ")", x.octet(k), m.octet(k));
        }
    }

    private void newImage() {
        int size = m.image();
        due("image()", x.image(), size);
        int[] ahead = new int[size - 1];
        for (int i = 0; i < ahead.length; i++) {
            ahead[i] = m.octet(i);
        }
        int spoil = to(3);
        for (int i = 0; i < spoil; i++) {
            int at = to(3) == 0 ? to(ahead.length) : to(Math.min(ahead.length, 2 + m.has(1) + m.has(2)));
            ahead[at] = to(2) == 0 ? to(5) : Math.floorMod(ahead[at] + to(5) - 2, 256);
        }
        int[] all = Bench.sealed(ahead);
        if (to(8) == 0) {
            all[to(all.length)] = to(256);
        }
        tape(to(8) == 0 ? java.util.Arrays.copyOf(all, to(all.length + 3)) : all);
        due("on()", x.on(), m.on());
        wholeImage();
    }

    private void wholeYear() {
        for (int what = 0; what < 4; what++) {
            due("year(" + what + ")", x.year(what), m.year(what));
        }
        for (int k = 0; k <= m.year(0); k++) {
            for (int what = 0; what < 3; what++) {
                due("goes(" + k + "," + what + ")", x.goes(k, what), m.goes(k, what));
            }
        }
        for (int k = 0; k <= m.has(4); k++) {
            due("step(" + k + ",0)", x.step(k, 0), m.step(k, 0));
            due("step(" + k + ",1)", x.step(k, 1), m.step(k, 1));
        }
        due("held()", x.held(), m.held());
        for (int place = 0; place < m.has(0); place++) {
            due("missed(" + place + ")", x.missed(place), m.missed(place));
        }
    }
}
