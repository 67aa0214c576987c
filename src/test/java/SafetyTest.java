import java.lang.management.ManagementFactory;
import java.util.Random;

/** Wild inputs: nothing is thrown, what is refused changes nothing, and what is made stays small. */
public final class SafetyTest {
    private static final int NONE = CaneRounds.NONE;
    private static final int RUNS = 3000;
    private static final int[] EDGES = {Integer.MIN_VALUE, Integer.MIN_VALUE + 1, -2000000000, -1000001, -1000000,
        -32, -2, -1, 0, 1, 2, 3, 9, 10, 15, 16, 19, 20, 29, 30, 31, 60, 61, 99, 100, 101, 200, 201, 3999, 4000, 4001,
        65535, 65536, 1000000, 1000001, 1 << 30, Integer.MAX_VALUE - 1, Integer.MAX_VALUE};

    private static final Random RANDOM = new Random(99);

    private record Answer(long value, boolean refused) {
    }

    /** A call whose inputs are settled, so that it can be made again of another object. */
    private interface Step {
        Answer on(Mill x);
    }

    public static void main(String[] args) {
        for (int i = 0; i < RUNS; i++) {
            wildRun();
        }
        littleIsMade();
        Due.finish();
    }

    private static int any() {
        switch (RANDOM.nextInt(4)) {
            case 0: return EDGES[RANDOM.nextInt(EDGES.length)];
            case 1: return RANDOM.nextInt();
            default: return RANDOM.nextInt(17) - 1;
        }
    }

    private static int within(int least, int most) {
        return RANDOM.nextInt(12) == 0 ? any() : least + RANDOM.nextInt(most - least + 1);
    }

    /** A run of wild calls, and the same run without those that were refused: the others answer alike. */
    private static void wildRun() {
        Mill x = new Mill();
        Mill withoutRefused = new Mill();
        int clock = 0;
        while (x.callsLeft() > 2) {
            Step step = RANDOM.nextInt(5) < 3 ? question() : change(clock);
            Answer answer = step.on(x);
            if (!answer.refused()) {
                Due.is("a call of a run without the refused ones", step.on(withoutRefused).value(), answer.value());
            }
            if (RANDOM.nextInt(20) == 0) {
                clock = x.about(0);
            }
        }
    }

    private static Step mayBeNone(Refusal.Question call) {
        return x -> {
            long value = call.of(x);
            return new Answer(value, value == NONE);
        };
    }

    private static Step mayBeFalse(Refusal.Refused call) {
        return x -> {
            boolean value = call.by(x);
            return new Answer(value ? 1 : 0, !value);
        };
    }

    private static Step isTaken(Refusal.Question call) {
        return x -> new Answer(call.of(x), false);
    }

    private static Answer pass(Mill x) {
        boolean nobodys = x.about(6) == NONE;
        return new Answer(x.pass(), nobodys);
    }

    private static Step change(int clock) {
        boolean stops = RANDOM.nextBoolean();
        int a = any();
        int farm = within(0, 9);
        int field = within(0, 15);
        switch (RANDOM.nextInt(14)) {
            case 0: {
                int[] r = {within(1, 9), within(1, 20), within(1, 9), within(1, 100)};
                return mayBeFalse(x -> x.rules(r[0], r[1], r[2], r[3]));
            }
            case 1: return mayBeNone(Mill::farm);
            case 2: case 3: {
                int[] f = {within(1, 200), within(0, 60), within(1, 30), within(0, 300), within(1, 100)};
                return mayBeNone(x -> x.field(farm, f[0], f[1], f[2], f[3], f[4]));
            }
            case 4: {
                int from = clock + within(0, 9);
                int to = clock + within(9, 20);
                return mayBeFalse(x -> x.weather(stops, from, to));
            }
            case 5: return mayBeNone(x -> x.round(a));
            case 6: return SafetyTest::pass;
            case 7: case 8: case 9: {
                int gangs = within(1, 3);
                return mayBeFalse(x -> x.cut(field, gangs));
            }
            case 10: return mayBeFalse(x -> x.fire(field));
            case 11: {
                int n = within(1, 12);
                return mayBeNone(x -> x.hours(n));
            }
            default: return changeOfTape();
        }
    }

    private static Step changeOfTape() {
        int[] letters = {0x742b2873, 0x2d6d2a39, 0x6d696e28, 0x2029202c, 0x32302f68};
        int[] words = new int[5];
        for (int i = 0; i < words.length; i++) {
            words[i] = RANDOM.nextInt(8) == 0 ? any() : letters[RANDOM.nextInt(letters.length)];
        }
        int n = within(0, 20);
        switch (RANDOM.nextInt(3)) {
            case 0: return mayBeNone(x -> x.feed(words[0], words[1], words[2], words[3], words[4]));
            case 1: return mayBeNone(x -> x.end(n));
            default: return isTaken(x -> x.text() ? 1 : 0);
        }
    }

    private static Step question() {
        int a = within(0, 15);
        int b = within(0, 8);
        switch (RANDOM.nextInt(10)) {
            case 0: {
                int[] v = {within(-9, 9), within(0, 30), within(0, 30), within(0, 1), within(0, 30)};
                return isTaken(x -> x.tells(v[0], v[1], v[2], v[3], v[4]));
            }
            case 1: {
                int hour = within(0, 4000);
                return isTaken(x -> x.sweet(a, hour));
            }
            case 2: return isTaken(x -> x.fieldOf(a, b));
            case 3: return isTaken(x -> x.load(a, b));
            case 4: {
                int ton = within(0, 500);
                return isTaken(x -> x.bundle(ton));
            }
            case 5: {
                int set = within(0, 63);
                return isTaken(x -> x.best(set, b));
            }
            case 6: {
                int set = 1 << RANDOM.nextInt(17) | 1 << RANDOM.nextInt(17);
                return isTaken(x -> x.bestSet(set, b));
            }
            case 7: return isTaken(x -> x.paid(b));
            case 8: {
                int what = within(0, 30);
                return isTaken(x -> x.about(what));
            }
            default: {
                int what = within(0, 1);
                return isTaken(x -> x.fault(what));
            }
        }
    }

    /** The room holds 7.3 million fields and elements: a run of 512 calls must stay far below it. */
    private static void littleIsMade() {
        com.sun.management.ThreadMXBean threads = (com.sun.management.ThreadMXBean) ManagementFactory.getThreadMXBean();
        long thread = Thread.currentThread().getId();
        long ahead = threads.getThreadAllocatedBytes(thread);
        Mill x = new Mill();
        x.farm();
        x.rules(9, 20, 9, 40);
        for (int i = 0; i < 16; i++) {
            x.field(0, 100 + i, 3 * i, 20, i, 50);
        }
        x.feed(0x6d617828, 0x742c7329, 0x2d2d2d74, 0x20202020, 0x20202020);
        x.text();
        for (int i = 0; i < 150; i++) {
            x.best(65535, 9);
            x.tells(i, i, i, i, i);
        }
        for (int i = 0; i < 16; i++) {
            x.round(i);
            x.cut(i, 1);
            x.hours(90);
        }
        long made = threads.getThreadAllocatedBytes(thread) - ahead;
        Due.is("a run makes less than 100,000 bytes, not " + made, made < 100000, true);
    }
}
