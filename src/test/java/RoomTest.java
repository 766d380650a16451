import java.lang.management.ManagementFactory;
import java.util.Random;

/** No call ever throws, and none takes room beyond what the constructor took: whatever is asked, in whatever state. */
public final class RoomTest {
    private static final int RUNS = 200;
    /** With those that put the TOWN on the tape, an object's 512. */
    private static final int CALLS = 420;
    /** A run may hold some 7.3 million fields and elements; one object must be a small part of that. */
    private static final long MOST_BYTES = 80_000;

    private static final com.sun.management.ThreadMXBean THREADS = (com.sun.management.ThreadMXBean) ManagementFactory.getThreadMXBean();

    public static void main(String[] args) {
        for (int run = 0; run < RUNS; run++) {
            Random random = new Random(run);
            String text = new TownMaker(random).text();
            GreyRoute x = run % 7 == 0 ? new GreyRoute() : Bench.made(text);
            int[] numbers = new int[CALLS * 6];
            for (int i = 0; i < numbers.length; i++) {
                numbers[i] = number(random);
            }
            long before = THREADS.getThreadAllocatedBytes(Thread.currentThread().getId());
            int sum = play(x, numbers);
            long behind = THREADS.getThreadAllocatedBytes(Thread.currentThread().getId());
            // the measuring itself takes some bytes at first
            Bench.due("run " + run + " (" + sum % 2 + "), more room than 2048 bytes", run > 2 && behind - before > 2048, false);
        }
        long before = THREADS.getThreadAllocatedBytes(Thread.currentThread().getId());
        GreyRoute x = new GreyRoute();
        long behind = THREADS.getThreadAllocatedBytes(Thread.currentThread().getId());
        Bench.due("an object of " + (behind - before) + " bytes is too large", behind - before > MOST_BYTES, false);
        Bench.due("status(0)", x.status(0), 0);
        dearest();
        Bench.finish();
    }

    private static int number(Random random) {
        int[] edges = {0, 1, -1, 2, 3, Integer.MAX_VALUE, Integer.MIN_VALUE, 19, 20, 21, 29, 30, 31, 39, 40, 41, 60, 61, 255, 999, 1600};
        int kind = random.nextInt(4);
        return kind == 0 ? edges[random.nextInt(edges.length)] : kind == 1 ? random.nextInt() : random.nextInt(10);
    }

    private static int play(GreyRoute x, int[] n) {
        int sum = 0;
        for (int i = 0; i + 5 < n.length; i += 6) {
            int a = n[i];
            int b = n[i + 1];
            int c = n[i + 2];
            switch (Math.floorMod(n[i + 5] ^ i / 6 * 11, 37)) {
                case 0: sum += x.feed(a, b, c, n[i + 3], n[i + 4]); break;
                case 1: sum += x.end(a) ? 1 : 0; break;
                case 2: sum += i % 5 == 0 ? x.town() : x.held(); break;
                case 3: sum += x.fault(a); break;
                case 4: sum += x.has(a); break;
                case 5: sum += x.letter(a, b, c); break;
                case 6: sum += x.street(a, b); break;
                case 7: sum += x.way(a, b); break;
                case 8: sum += x.thing(a, b); break;
                case 9: sum += x.step(a, b); break;
                case 10: sum += x.year(a); break;
                case 11: sum += x.goes(a, b); break;
                case 12: sum += x.wall(); break;
                case 13: sum += x.away(a); break;
                case 14: sum += x.by(a); break;
                case 15: sum += x.seats(a); break;
                case 16: sum += x.later(a, b); break;
                case 17: sum += x.missed(a); break;
                case 18: sum += x.held(); break;
                case 19: sum += x.half(); break;
                case 20: sum += x.filled(a); break;
                case 21: sum += x.filling(a, b); break;
                case 22: sum += x.asked(a, b); break;
                case 23: sum += x.years(a); break;
                case 24: sum += x.chance(a); break;
                case 25: sum += x.shut(a, b) ? 1 : 0; break;
                case 26: sum += x.move(a, b) ? 1 : 0; break;
                case 27: case 28: sum += x.teach(a, b) ? 1 : 0; break;
                case 29: sum += x.forget() ? 1 : 0; break;
                case 30: sum += x.undo() ? 1 : 0; break;
                case 31: sum += x.seed(a) ? 1 : 0; break;
                case 32: sum += x.kept(a, b); break;
                case 33: sum += x.image(); break;
                case 34: sum += x.octet(a); break;
                case 35: sum += x.on() ? 1 : 0; break;
                default: sum += x.status(a); break;
            }
        }
        return sum;
    }

    /** The longest SUM that the tape holds, with all THINGS in the way, asked for until the object's calls end. */
    private static void dearest() {
        StringBuilder text = new StringBuilder("place a;place b;street a to b paces 1;");
        for (int i = 0; i < 20; i++) {
            text.append(i % 2 == 0 ? "step a for 1;" : "step b for 1;");
        }
        for (char c = 'c'; c < 'k'; c++) {
            text.append("thing ").append(c).append(" at a pull 1;");
        }
        text.append("clever all;stands 9");
        while (text.length() + 3 <= 1600) {
            text.append("+0");
        }
        GreyRoute x = Bench.made(text.append(';').toString());
        for (int i = 0; i < 10; i++) {
            x.teach(i % 2, 1);
        }
        for (int i = 0; i < 200; i++) {
            Bench.due("away(8)", x.away(8), -1);
        }
        for (int i = 0; i < 100; i++) {
            Bench.due("later(39, 0)", x.later(39, 0), 2);
        }
    }
}
