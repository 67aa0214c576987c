import java.lang.management.ManagementFactory;
import java.util.Arrays;
import java.util.Random;

/** Wild inputs: nothing is thrown, what is refused changes nothing, and what is made stays small. */
public final class SafetyTest {
    private static final int RUNS = 400;
    private static final int CALLS = 512;
    private static final int[] EDGES = {Integer.MIN_VALUE, Integer.MIN_VALUE + 1, -2000000000, -1000001, -1000000,
        -32, -2, -1, 0, 1, 2, 3, 9, 10, 15, 16, 19, 20, 29, 30, 31, 60, 61, 99, 100, 101, 200, 201, 3999, 4000, 4001,
        65535, 65536, 1000000, 1000001, 1 << 30, Integer.MAX_VALUE - 1, Integer.MAX_VALUE};

    private static final Random RANDOM = new Random(99);

    public static void main(String[] args) {
        for (int i = 0; i < RUNS; i++) {
            wildRun(i % 2 == 0);
        }
        littleIsMade();
        Due.finish();
    }

    private static int any() {
        switch (RANDOM.nextInt(4)) {
            case 0: return EDGES[RANDOM.nextInt(EDGES.length)];
            case 1: return RANDOM.nextInt();
            default: return RANDOM.nextInt(17) - 1;
        }
    }

    private static int within(int least, int most) {
        return RANDOM.nextInt(12) == 0 ? any() : least + RANDOM.nextInt(most - least + 1);
    }

    private static void wildRun(boolean watched) {
        CaneRounds x = new CaneRounds();
        for (int i = 0; i < CALLS; i++) {
            long[] ahead = watched ? all(x) : null;
            boolean refused = change(x);
            ask(x);
            if (watched && refused) {
                Due.is("what is refused changes nothing", Arrays.equals(ahead, all(x)), true);
            }
        }
    }

    /** One call that may change something: whether it was refused. */
    private static boolean change(CaneRounds x) {
        int letters = 0x742b2873;
        switch (RANDOM.nextInt(13)) {
            case 0: return !x.rules(within(1, 9), within(1, 20), within(1, 9), within(1, 100));
            case 1: return x.farm() == -1;
            case 2: case 3:
                return x.field(within(0, 9), within(1, 200), within(0, 60), within(1, 30), within(0, 300), within(1, 100)) == -1;
            case 4: return !x.weather(RANDOM.nextBoolean(), x.about(0) + within(0, 9), x.about(0) + within(9, 20));
            case 5: return x.round(any()) == -1;
            case 6: {
                boolean nobodys = x.about(6) == -1;
                x.pass();
                return nobodys;
            }
            case 7: case 8: return !x.cut(within(0, 15), within(1, 3));
            case 9: return !x.fire(within(0, 15));
            case 10: return x.hours(within(1, 12)) == -1;
            case 11: return x.feed(RANDOM.nextBoolean() ? letters : any(), any(), any(), any(), any()) == -1;
            default: return endOrText(x);
        }
    }

    private static boolean endOrText(CaneRounds x) {
        if (RANDOM.nextBoolean()) {
            return x.end(within(0, 20)) == -1;
        }
        x.text();
        return false;
    }

    private static void ask(CaneRounds x) {
        x.tells(any(), any(), any(), any(), any());
        x.sweet(any(), any());
        x.fieldOf(any(), any());
        x.load(any(), any());
        x.bundle(any());
        x.best(any(), any());
        x.bestSet(any(), any());
        x.paid(any());
        x.about(any());
        x.fault(any());
    }

    /** All that can be asked, in one row. */
    private static long[] all(CaneRounds x) {
        long[] row = new long[600];
        int n = 0;
        for (int i = -1; i < 31; i++) {
            row[n++] = x.about(i);
            row[n++] = x.paid(i);
        }
        for (int i = 0; i < 16; i++) {
            for (int what = 0; what < 10; what++) {
                row[n++] = x.fieldOf(i, what);
                row[n++] = x.load(i, what);
            }
            row[n++] = x.sweet(i, 77);
        }
        row[n++] = x.fault(0);
        row[n++] = x.fault(1);
        row[n++] = x.tells(2, 3, 5, 7, 11);
        for (int i = 0; i < 3200; i += 40) {
            row[n++] = x.bundle(i);
        }
        return row;
    }

    /** The room holds 7.3 million fields and elements: a run of 512 calls must stay far below it. */
    private static void littleIsMade() {
        com.sun.management.ThreadMXBean threads = (com.sun.management.ThreadMXBean) ManagementFactory.getThreadMXBean();
        long thread = Thread.currentThread().getId();
        long ahead = threads.getThreadAllocatedBytes(thread);
        CaneRounds x = new CaneRounds();
        x.farm();
        x.rules(9, 20, 9, 40);
        for (int i = 0; i < 16; i++) {
            x.field(0, 100 + i, 3 * i, 20, i, 50);
        }
        x.feed(0x6d617828, 0x742c7329, 0x2d2d2d74, 0x20202020, 0x20202020);
        x.text();
        for (int i = 0; i < 150; i++) {
            x.best(65535, 9);
            x.tells(i, i, i, i, i);
        }
        for (int i = 0; i < 16; i++) {
            x.round(i);
            x.cut(i, 1);
            x.hours(90);
        }
        long made = threads.getThreadAllocatedBytes(thread) - ahead;
        Due.is("a run makes less than 100,000 bytes, not " + made, made < 100000, true);
    }
}
