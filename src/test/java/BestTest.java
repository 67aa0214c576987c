import java.util.Random;

/** The best of random sets of fields, beside a trial of every part of the set, hour by hour. */
public final class BestTest {
    private static final int SMALL_RUNS = 600;
    private static final int FULL_RUNS = 8;

    private static final Random RANDOM = new Random(77);

    /** What a field would be as a load, if it were cut from the clock's hour by one gang. */
    private record Foreseen(int tons, int worth, int comes, int dies) {
    }

    public static void main(String[] args) {
        for (int i = 0; i < SMALL_RUNS; i++) {
            run("run " + i, 1 + RANDOM.nextInt(9), 5);
        }
        for (int i = 0; i < FULL_RUNS; i++) {
            run("full run " + i, 16, 1);
        }
        Due.finish();
    }

    private static int upTo(int most) {
        return 1 + RANDOM.nextInt(most);
    }

    private static void run(String where, int fields, int asked) {
        Mill x = new Mill();
        x.farm();
        int rate = upTo(20);
        int crush = upTo(RANDOM.nextBoolean() ? 12 : 60);
        x.rules(9, rate, 9, crush);
        boolean alike = RANDOM.nextInt(3) == 0;
        int mostTons = RANDOM.nextBoolean() ? 200 : 40;
        int[] km = new int[fields];
        for (int i = 0; i < fields; i++) {
            km[i] = RANDOM.nextInt(61);
            int tons = alike ? 10 * upTo(3) : upTo(mostTons);
            x.field(0, tons, km[i], alike ? upTo(3) : upTo(30), RANDOM.nextInt(100), upTo(100));
        }
        x.hours(upTo(60));
        for (int i = 0; i < fields; i++) {
            if (RANDOM.nextInt(4) == 0) {
                x.fire(i);
            }
        }
        x.hours(upTo(5));
        Foreseen[] foreseen = new Foreseen[fields];
        for (int i = 0; i < fields; i++) {
            foreseen[i] = foresee(x, i, km[i], rate);
        }
        for (int i = 0; i < asked; i++) {
            int set = asked == 1 ? (1 << fields) - 1 : RANDOM.nextInt(1 << fields);
            compare(where, x, foreseen, set, upTo(9), crush);
        }
    }

    private static Foreseen foresee(Mill x, int field, int km, int rate) {
        int tons = x.fieldOf(field, 1);
        int cutAt = x.about(0);
        for (int done = 0; done < tons; done += rate) {
            cutAt++;
        }
        int way = km == 0 ? 1 : (int) Math.ceil(km / 10.0);
        int dies = cutAt + (x.fieldOf(field, 4) == 1 ? 12 : 24);
        return new Foreseen(tons, tons * x.sweet(field, cutAt), cutAt + way, dies);
    }

    private static void compare(String where, Mill x, Foreseen[] all, int set, int g, int crush) {
        int bestWorth = -1;
        int bestSet = -1;
        for (int part = 0; part <= set; part++) {
            if ((part & ~set) != 0 || Integer.bitCount(part) > g) {
                continue;
            }
            int worth = worthOf(all, part);
            if (worth > bestWorth && isCrushedInTime(all, part, crush)) {
                bestWorth = worth;
                bestSet = part;
            }
        }
        Due.is(where + " best(" + set + ", " + g + ")", x.best(set, g), bestWorth);
        Due.is(where + " bestSet(" + set + ", " + g + ")", x.bestSet(set, g), bestSet);
    }

    private static int worthOf(Foreseen[] all, int part) {
        int worth = 0;
        for (int i = 0; i < all.length; i++) {
            if ((part >> i & 1) == 1) {
                worth += all[i].worth();
            }
        }
        return worth;
    }

    private static boolean isCrushedInTime(Foreseen[] all, int part, int crush) {
        int[] left = new int[all.length];
        int last = 0;
        for (int i = 0; i < all.length; i++) {
            if ((part >> i & 1) == 1) {
                left[i] = all[i].tons();
                last = Math.max(last, all[i].dies());
            }
        }
        for (int hour = 0; hour < last; hour++) {
            int room = crush;
            for (int i = next(all, left, hour); i >= 0 && room > 0; i = next(all, left, hour)) {
                int tons = Math.min(room, left[i]);
                left[i] -= tons;
                room -= tons;
            }
            for (int i = 0; i < all.length; i++) {
                if (left[i] > 0 && all[i].dies() <= hour + 1) {
                    return false;
                }
            }
        }
        return true;
    }

    private static int next(Foreseen[] all, int[] left, int hour) {
        int next = -1;
        for (int i = 0; i < all.length; i++) {
            boolean there = left[i] > 0 && all[i].comes() <= hour;
            if (there && (next < 0 || all[i].dies() < all[next].dies())) {
                next = i;
            }
        }
        return next;
    }
}
