/** All that an object tells, as one text: what a call must leave as it was is the same text ahead of it and behind it. */
final class Told {
    private static final int MOST_CALLS = 400;

    private final GreyRoute x;
    private final StringBuilder all = new StringBuilder();
    private int calls = 0;

    private Told(GreyRoute x) {
        this.x = x;
    }

    /**
     * Told as if so many more of a kind had been refused. The object is used up by this: its ACTS are undone, and its
     * tape is read.
     */
    static String of(GreyRoute x, int kind, int more) {
        Told told = new Told(x);
        told.counts(kind, more);
        told.town();
        told.thisYear();
        told.half();
        told.kept();
        told.octets();
        told.acts();
        told.tape();
        Bench.due("calls to tell all, too many", told.calls > MOST_CALLS, false);
        return told.all.toString();
    }

    private void put(String what, long answer) {
        calls++;
        all.append(what).append('=').append(answer).append(' ');
    }

    private void counts(int kind, int more) {
        for (int i = 0; i < 10; i++) {
            put("has" + i, x.has(i));
        }
        for (int i = 0; i < 6; i++) {
            put("status" + i, x.status(i) + (i == kind ? more : 0));
        }
        // a refused town() tells a FAULT of its own
        for (int what = 0; what < 2 && kind != 1; what++) {
            put("fault" + what, x.fault(what));
        }
    }

    private void town() {
        for (int i = 0; i < x.has(0); i++) {
            put("place" + i, x.letter(0, i, 0) * 32 + x.letter(0, i, 1));
            put("way" + i, x.way(0, i));
        }
        for (int i = 0; i < x.has(2); i++) {
            put("name" + i, x.letter(1, i, 0) * 32 + x.letter(1, i, 1));
            put("thing" + i, x.thing(i, 0) * 16 + x.thing(i, 1));
        }
        for (int i = 0; i < x.has(1); i++) {
            for (int what = 0; what < 4; what++) {
                put("street" + i, x.street(i, what));
            }
        }
        for (int k = 0; k < x.has(4); k++) {
            put("step" + k, x.step(k, 0) * 64 + x.step(k, 1));
        }
        calls += 2 * (x.has(0) + x.has(1) + x.has(2) + x.has(4));
    }

    private void thisYear() {
        for (int what = 0; what < 4; what++) {
            put("year" + what, x.year(what));
        }
        put("wall", x.wall());
        put("later1", x.later(1, 1));
        put("held", x.held());
    }

    private void half() {
        put("filled", x.filled(3));
        put("filling", x.filling(3, 2));
        put("asked", x.asked(3, 0));
    }

    private void kept() {
        int many = x.has(6);
        for (int k = 0; k < many; k += many > 8 && k == 0 ? many - 1 : 1) {
            for (int what = 0; what < 3; what++) {
                put("kept" + k, x.kept(k, what));
            }
        }
    }

    private void octets() {
        int k = 0;
        while (k < 100 && x.octet(k) >= 0) {
            put("octet" + k, x.octet(k));
            k++;
        }
        calls += k;
    }

    private void acts() {
        for (int i = 0; i < 25 && x.undo(); i++) {
            put("undone", x.has(3) * 1000 + x.has(4) * 30 + x.has(5));
            put("moved", x.thing(0, 0));
            calls += 3;
        }
    }

    private void tape() {
        int size = x.feed(0, 0, 0, 0, 0);
        put("tape", size);
        if (size >= 20) {
            x.end(size - 20);
        }
        put("its town", x.town());
        put("its fault", x.fault(0));
        put("its place", x.fault(1));
        put("its has", x.has(0) * 100 + x.has(1) * 10 + x.has(4));
    }
}
