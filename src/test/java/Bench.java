import java.nio.charset.StandardCharsets;

/** What the tests share: they count wrong answers, and put texts and bytes on the tape. */
final class Bench {
    private static int wrong = 0;
    private static int checked = 0;

    private Bench() {
    }

    static void due(String call, long got, long want) {
        checked++;
        if (got != want) {
            wrong++;
            if (wrong <= 20) {
                System.out.println(call + " answered " + got + ", due is " + want);
            }
        }
    }

    static void due(String call, boolean got, boolean want) {
        due(call, got ? 1 : 0, want ? 1 : 0);
    }

    static void finish() {
        System.out.println(checked + " answers, " + wrong + " not as due");
        System.exit(wrong == 0 && checked > 0 ? 0 : 1);
    }

    /** Puts bytes on the tape behind what is there, a feed() for each twenty and an end() behind them. */
    static void feed(GreyRoute x, int tapeSize, int... bytes) {
        for (int i = 0; i < bytes.length; i += 20) {
            int[] n = new int[5];
            for (int k = 0; k < 20; k++) {
                int b = i + k < bytes.length ? bytes[i + k] & 255 : 0;
                n[k / 4] = n[k / 4] << 8 | b;
            }
            x.feed(n[0], n[1], n[2], n[3], n[4]);
        }
        x.end(tapeSize + bytes.length);
    }

    static int[] bytes(String text) {
        byte[] latin = text.getBytes(StandardCharsets.ISO_8859_1);
        int[] all = new int[latin.length];
        for (int i = 0; i < all.length; i++) {
            all[i] = latin[i] & 255;
        }
        return all;
    }

    static int town(GreyRoute x, String text) {
        feed(x, 0, bytes(text));
        return x.town();
    }

    static GreyRoute made(String text) {
        GreyRoute x = new GreyRoute();
        int statements = town(x, text);
        if (statements < 0) {
            due("town() of \"" + text + "\": fault " + x.fault(0) + " at " + x.fault(1), statements, 0);
        }
        return x;
    }

    static int half(GreyRoute x, int... rows) {
        feed(x, 0, rows);
        return x.half();
    }

    static int[] image(GreyRoute x) {
        int[] all = new int[x.image()];
        for (int i = 0; i < all.length; i++) {
            all[i] = x.octet(i);
        }
        return all;
    }

    static boolean on(GreyRoute x, int... image) {
        feed(x, 0, image);
        return x.on();
    }

    /** The bytes with the one that AN IMAGE has last. */
    static int[] sealed(int... ahead) {
        int[] all = java.util.Arrays.copyOf(ahead, ahead.length + 1);
        int c = 197;
        for (int b : ahead) {
            c = (5 * c + b) % 251;
        }
        all[ahead.length] = c;
        return all;
    }

    static String route(GreyRoute x) {
        StringBuilder told = new StringBuilder();
        for (int k = 0; k < x.has(4); k++) {
            told.append(k == 0 ? "" : " ").append(x.step(k, 0)).append(':').append(x.step(k, 1));
        }
        return told.toString();
    }

    static String gone(GreyRoute x) {
        StringBuilder told = new StringBuilder();
        for (int k = 0; k < x.year(0); k++) {
            told.append(k == 0 ? "" : " ").append(x.goes(k, 0)).append(':').append(x.goes(k, 1)).append('@').append(x.goes(k, 2));
        }
        return told.toString();
    }

    static void dueText(String call, String got, String want) {
        checked++;
        if (!got.equals(want)) {
            wrong++;
            System.out.println(call + " answered \"" + got + "\", due is \"" + want + "\"");
        }
    }
}
