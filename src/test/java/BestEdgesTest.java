/** The edges of THE BEST (part III of the terms, promises 20 and 21): a method for each sentence that names one. */
public final class BestEdgesTest {
    private static final int NONE = CaneRounds.NONE;
    private static final int LEAST = Integer.MIN_VALUE;
    private static final int MOST = Integer.MAX_VALUE;

    public static void main(String[] args) {
        gangsAreOneToNine();
        setsAreOfFields();
        setsAreOfFieldsNotCutNotGone();
        theEmptySet();
        theFullSet();
        gFieldsAtMost();
        ofLikeOnesTheLeastNumber();
        whatIsWorthNothing();
        allInTime();
        allInTimeIfBurnt();
        allOfThemInTime();
        inTimeAsTheyCome();
        whatDiesFirstIsCrushedFirst();
        byOneGangEach();
        sweetOfTheHourOfTheLoad();
        withoutRainStopsLoadsAndWithATruckAtOnce();
        nothingIsChanged();
        Due.finish();
    }

    private static Mill mill(int rate, int crush) {
        Mill x = new Mill();
        x.farm();
        Due.is("rules", x.rules(1, rate, 1, crush), true);
        return x;
    }

    private static void bestIs(Mill x, int set, int g, int worth, int part) {
        Due.is("best(" + set + ", " + g + ")", x.best(set, g), worth);
        Due.is("bestSet(" + set + ", " + g + ")", x.bestSet(set, g), part);
    }

    private static void hasNone(Mill x, int set, int g) {
        bestIs(x, set, g, NONE, NONE);
    }

    private static void gangsAreOneToNine() {
        Due.by("20: NONE: others, g (1 .. 9)");
        Mill x = mill(10, 100);
        for (int i = 0; i < 11; i++) {
            x.field(0, 10, 0, 10, 0, 100);
        }
        for (int g : new int[] {0, 10, 11, -1, LEAST, MOST}) {
            hasNone(x, 2047, g);
            hasNone(x, 0, g);
        }
        bestIs(x, 2047, 1, 100, 1);
        bestIs(x, 2047, 9, 900, 511);
    }

    private static void setsAreOfFields() {
        Due.by("THE BEST of a set of FIELDS (bits)");
        Mill x = mill(10, 100);
        hasNone(x, 1, 1);
        for (int fields = 1; fields <= 16; fields++) {
            hasNone(x, 1 << fields - 1, 1);
            x.field(0, 10, 0, 10, 0, 100);
            bestIs(x, 1 << fields - 1, 1, 100, 1 << fields - 1);
        }
        for (int bit = 16; bit < 32; bit++) {
            hasNone(x, 1 << bit, 1);
            hasNone(x, 1 << bit | 1, 1);
        }
        hasNone(x, -1, 1);
        hasNone(x, LEAST, 9);
        hasNone(x, MOST, 9);
        hasNone(x, 65536, 9);
        hasNone(x, 65537, 9);
    }

    private static void setsAreOfFieldsNotCutNotGone() {
        Due.by("THE BEST .. each not cut, not GONE");
        Mill x = mill(5, 100);
        for (int i = 0; i < 3; i++) {
            x.field(0, 10, 0, 10, 0, 100);
        }
        x.round(0);
        bestIs(x, 7, 3, 300, 7);
        x.cut(0, 1);
        hasNone(x, 1, 1);
        hasNone(x, 7, 3);
        bestIs(x, 6, 3, 200, 6);
        x.hours(2);
        Due.is("is cut", x.fieldOf(0, 2), 2);
        hasNone(x, 1, 1);
        x.fire(1);
        x.hours(11);
        bestIs(x, 2, 1, 80, 2);
        x.hours(1);
        Due.is("is gone", x.fieldOf(1, 2), 3);
        hasNone(x, 2, 1);
        hasNone(x, 6, 2);
        bestIs(x, 4, 1, 100, 4);
    }

    private static void theEmptySet() {
        Due.by("a part of it: of an empty set");
        Mill x = new Mill();
        bestIs(x, 0, 1, 0, 0);
        bestIs(x, 0, 9, 0, 0);
        x.farm();
        x.field(0, 10, 0, 10, 0, 100);
        bestIs(x, 0, 1, 0, 0);
    }

    private static void theFullSet() {
        Due.by("THE BEST of a set of FIELDS: of all 16");
        Mill x = mill(20, 100);
        for (int i = 0; i < 16; i++) {
            x.field(0, 20, 0, 10 + i, 0, 100);
        }
        bestIs(x, 65535, 9, 20 * (17 + 18 + 19 + 20 + 21 + 22 + 23 + 24 + 25), 0xff80);
        bestIs(x, 65535, 1, 20 * 25, 0x8000);
        bestIs(x, 0x8000, 9, 20 * 25, 0x8000);
    }

    private static void gFieldsAtMost() {
        Due.by("a part of it of g FIELDS at most");
        Mill x = mill(20, 100);
        for (int i = 0; i < 9; i++) {
            x.field(0, 10, 0, 30 - i, 0, 100);
        }
        int worth = 0;
        for (int g = 1; g <= 9; g++) {
            worth += 10 * (31 - g);
            bestIs(x, 511, g, worth, (1 << g) - 1);
        }
        bestIs(x, 3, 9, 590, 3);
    }

    private static void ofLikeOnesTheLeastNumber() {
        Due.by("The most; of like ones the least number");
        Mill x = mill(20, 100);
        x.field(0, 20, 0, 10, 0, 100);
        x.field(0, 10, 0, 20, 0, 100);
        x.field(0, 20, 0, 10, 0, 100);
        x.field(0, 10, 0, 10, 0, 100);
        x.field(0, 10, 0, 10, 0, 100);
        x.field(0, 20, 0, 20, 0, 100);
        bestIs(x, 7, 1, 200, 1);
        bestIs(x, 6, 1, 200, 2);
        bestIs(x, 7, 2, 400, 3);
        bestIs(x, 31, 2, 400, 3);
        bestIs(x, 28, 2, 300, 12);
        bestIs(x, 24, 1, 100, 8);
        Mill y = mill(20, 1);
        y.field(0, 11, 0, 10, 0, 100);
        y.field(0, 12, 0, 10, 0, 100);
        y.field(0, 23, 0, 10, 0, 100);
        bestIs(y, 7, 2, 230, 3);
        bestIs(y, 7, 1, 230, 4);
        bestIs(y, 6, 2, 230, 4);
    }

    private static void whatIsWorthNothing() {
        Due.by("The most; of like ones the least number: what is worth nothing is left out");
        Mill x = mill(20, 100);
        x.field(0, 20, 0, 1, 4000, 1);
        x.field(0, 20, 0, 2, 0, 100);
        x.field(0, 20, 0, 10, 0, 100);
        x.fire(1);
        x.field(0, 1, 0, 1, 0, 100);
        bestIs(x, 1, 1, 0, 0);
        bestIs(x, 2, 1, 0, 0);
        bestIs(x, 7, 3, 200, 4);
        bestIs(x, 8, 1, 1, 8);
        bestIs(x, 15, 4, 201, 12);
    }

    /** Of a field with so many tons alone: whether it is crushed in time. */
    private static void fits(boolean burnt, int tons, int km, int crush, boolean due) {
        Mill x = mill(20, crush);
        x.field(0, tons, km, 10, 0, 100);
        if (burnt) {
            x.fire(0);
        }
        int worth = tons * (burnt ? 8 : 10);
        bestIs(x, 1, 1, due ? worth : 0, due ? 1 : 0);
    }

    private static void allInTime() {
        Due.by("the mill could crush all of them in time, HOUR by HOUR as above");
        int[][] hoursByKm = {{0, 23}, {10, 23}, {11, 22}, {20, 22}, {21, 21}, {41, 19}, {60, 18}};
        for (int[] way : hoursByKm) {
            for (int crush : new int[] {1, 3, 8}) {
                fits(false, crush * way[1], way[0], crush, true);
                fits(false, crush * way[1] + 1, way[0], crush, false);
            }
        }
        fits(false, 200, 60, 100, true);
    }

    private static void allInTimeIfBurnt() {
        Due.by("DIE as told (12, if BURNT)");
        int[][] hoursByKm = {{0, 11}, {10, 11}, {11, 10}, {30, 9}, {31, 8}, {60, 6}};
        for (int[] way : hoursByKm) {
            for (int crush : new int[] {1, 7, 16}) {
                fits(true, crush * way[1], way[0], crush, true);
                fits(true, crush * way[1] + 1, way[0], crush, false);
            }
        }
    }

    private static void allOfThemInTime() {
        Due.by("the mill (nothing else there) could crush all of them in time");
        Mill x = mill(20, 2);
        x.field(0, 20, 0, 10, 0, 100);
        x.field(0, 20, 0, 10, 0, 100);
        x.field(0, 6, 0, 10, 0, 100);
        x.field(0, 7, 0, 10, 0, 100);
        bestIs(x, 3, 2, 400, 3);
        bestIs(x, 7, 3, 460, 7);
        bestIs(x, 11, 3, 400, 3);
        bestIs(x, 15, 4, 460, 7);
    }

    private static void inTimeAsTheyCome() {
        Due.by("be AT THE MILL as above; the mill could crush all of them in time");
        Mill x = mill(20, 1);
        x.field(0, 5, 0, 10, 0, 100);
        x.field(0, 18, 60, 10, 0, 100);
        bestIs(x, 3, 2, 230, 3);
        Mill y = mill(20, 1);
        y.field(0, 5, 10, 10, 0, 100);
        y.field(0, 19, 60, 10, 0, 100);
        bestIs(y, 3, 2, 50, 1);
        Mill z = mill(20, 1);
        z.field(0, 6, 0, 10, 0, 100);
        z.field(0, 18, 60, 10, 0, 100);
        bestIs(z, 3, 2, 180, 2);
        Mill late = mill(20, 1);
        late.field(0, 1, 0, 10, 0, 100);
        late.field(0, 10, 60, 10, 0, 100);
        late.field(0, 9, 60, 10, 0, 100);
        late.field(0, 8, 60, 10, 0, 100);
        bestIs(late, 7, 3, 110, 3);
        bestIs(late, 11, 3, 190, 11);
    }

    private static void whatDiesFirstIsCrushedFirst() {
        Due.by("could crush all of them in time, HOUR by HOUR as above: the one that DIES first");
        Mill x = mill(20, 1);
        x.field(0, 12, 0, 30, 0, 100);
        x.field(0, 11, 0, 30, 0, 100);
        x.fire(1);
        bestIs(x, 3, 2, 12 * 30 + 11 * 28, 3);
        Mill y = mill(20, 1);
        y.field(0, 13, 0, 30, 0, 100);
        y.field(0, 11, 0, 30, 0, 100);
        y.fire(1);
        bestIs(y, 3, 2, 13 * 30, 1);
        Mill z = mill(20, 1);
        z.field(0, 23, 0, 10, 0, 100);
        z.field(0, 8, 0, 30, 0, 100);
        z.field(0, 4, 0, 30, 0, 100);
        z.fire(1);
        z.fire(2);
        bestIs(z, 6, 2, 8 * 28, 2);
        bestIs(z, 7, 3, 23 * 10, 1);
    }

    private static void byOneGangEach() {
        Due.by("each would be cut from the clock's HOUR by one gang");
        for (int tons = 9; tons <= 11; tons++) {
            Mill x = mill(10, 100);
            x.field(0, tons, 0, 30, 0, 1);
            int hours = tons <= 10 ? 1 : 2;
            bestIs(x, 1, 9, tons * (30 - hours), 1);
            x.hours(5);
            bestIs(x, 1, 9, tons * (25 - hours), 1);
        }
        Mill y = mill(1, 100);
        y.field(0, 20, 0, 30, 0, 1);
        y.field(0, 1, 0, 30, 0, 1);
        bestIs(y, 1, 1, 200, 1);
        bestIs(y, 3, 2, 229, 3);
    }

    private static void sweetOfTheHourOfTheLoad() {
        Due.by("TONS by SWEET (of the HOUR at which they would be LOADS, of BURNT ones as told) together");
        Mill x = mill(20, 100);
        x.field(0, 40, 60, 30, 2, 1);
        x.field(0, 40, 60, 30, 2, 1);
        bestIs(x, 1, 1, 40 * 30, 1);
        x.fire(0);
        bestIs(x, 1, 1, 40 * 26, 1);
        x.hours(2);
        bestIs(x, 2, 1, 40 * 28, 2);
        bestIs(x, 1, 1, 40 * 26, 1);
        bestIs(x, 3, 2, 40 * 54, 3);
    }

    private static void withoutRainStopsLoadsAndWithATruckAtOnce() {
        Due.by("without RAIN, a TRUCK at once, without STOPS, nothing else there");
        Mill x = mill(20, 10);
        for (int i = 0; i < 4; i++) {
            x.field(0, 100, 60, 10, 0, 100);
        }
        x.round(0);
        x.cut(3, 1);
        x.hours(5);
        Due.is("a load is on its way", x.about(5), 0);
        x.weather(false, 5, 100);
        x.weather(true, 5, 100);
        x.round(0);
        x.cut(2, 1);
        Due.is("no gang is free", x.about(4), 0);
        bestIs(x, 1, 1, 1000, 1);
        bestIs(x, 3, 2, 1000, 1);
        Mill y = mill(20, 12);
        y.field(0, 100, 60, 10, 0, 100);
        y.field(0, 100, 60, 10, 0, 100);
        bestIs(y, 3, 2, 2000, 3);
    }

    private static void nothingIsChanged() {
        Due.by("20: WORTH of THE BEST; 21: THE BEST as a set");
        Refusal.Steps setup = x -> {
            x.farm();
            x.rules(4, 20, 1, 5);
            for (int i = 0; i < 6; i++) {
                x.field(0, 40 + i, 7 * i, 20, 10, 9);
            }
            x.round(0);
            x.cut(5, 1);
            x.fire(4);
            x.hours(3);
        };
        Refusal.isNone("best of a field that is cut", setup, x -> x.best(63, 3));
        Refusal.isNone("bestSet of a field that is cut", setup, x -> x.bestSet(63, 3));
        Refusal.isNone("best for 10", setup, x -> x.best(7, 10));
        Refusal.isNone("bestSet for 0", setup, x -> x.bestSet(7, 0));
        Refusal.answers("best asks alone", setup, x -> x.best(1, 1), 800);
        Refusal.answers("bestSet asks alone", setup, x -> x.bestSet(1, 1), 1);
    }
}
