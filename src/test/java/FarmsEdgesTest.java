/** The edges of part I of the terms, and of promises 1 to 7 and 16: a method for each sentence that names one. */
public final class FarmsEdgesTest {
    private static final int NONE = CaneRounds.NONE;
    private static final int LEAST = Integer.MIN_VALUE;
    private static final int MOST = Integer.MAX_VALUE;

    public static void main(String[] args) {
        aNewObject();
        rulesAtFirst();
        rulesTakeTheirBounds();
        rulesRefuseOthers();
        rulesRefuseOnceAnHourHasGoneBy();
        farmsAreTen();
        fieldsAreSixteen();
        fieldsTakeTheirBounds();
        fieldsRefuseOthers();
        fieldsAreAFarms();
        sweetIsCut();
        sweetIs0AtLeast();
        sweetTakesTheHoursBounds();
        weatherTakesItsBounds();
        weatherRefusesOthers();
        weatherIsTwentyOfBoth();
        rainIsInItsHoursAlone();
        stopsAreInTheirHoursAlone();
        weatherAtTheLastHour();
        lotIsOf32Bits();
        lotIsOfTheRowOfNumbers();
        lotIsOfAllFarms();
        roundWithoutFarms();
        roundBeginsAnew();
        turnIsTheFirstThatHasNeitherCutNorPassed();
        passOfNobody();
        Due.finish();
    }

    private static Mill withFarms(int farms) {
        Mill x = new Mill();
        for (int i = 0; i < farms; i++) {
            x.farm();
        }
        return x;
    }

    /** A state with something of everything, so that a refused call has much to spoil. */
    private static void busy(Mill x) {
        x.farm();
        x.farm();
        x.rules(4, 7, 2, 9);
        x.field(0, 30, 12, 20, 40, 7);
        x.field(1, 50, 0, 11, 3, 2);
        x.field(1, 40, 33, 30, 10, 30);
        x.round(0);
        x.cut(0, 1);
        x.cut(1, 2);
        x.weather(false, 2, 4);
        x.weather(true, 6, 9);
        Due.feed(x, "t*s+m");
    }

    private static void aNewObject() {
        Due.by("1: No FARMS, FIELDS; no ROUND");
        Mill x = new Mill();
        Due.is("the clock's at first", x.about(0), 0);
        Due.is("farms", x.about(1), 0);
        Due.is("fields", x.about(2), 0);
        Due.is("loads", x.about(3), 0);
        Due.is("turn", x.about(6), NONE);
        Due.is("crushed", x.about(7), 0);
        Due.is("lost", x.about(8), 0);
        Due.is("mean", x.about(9), NONE);
        Due.is("tape", x.about(10), 0);
        Due.is("order", x.about(20), NONE);
        Due.is("field of no farm", x.field(0, 1, 0, 1, 0, 1), NONE);
        Due.is("paid to no farm", x.paid(0), 0);
        Due.is("no field", x.fieldOf(0, 0), NONE);
        Due.is("no load", x.load(0, 0), NONE);
        Due.is("no bundle", x.bundle(0), NONE);
        Due.is("no cut", x.cut(0, 1), false);
        Due.is("no fire", x.fire(0), false);
        Due.is("first farm", x.farm(), 0);
        Due.is("first field", x.field(0, 1, 0, 1, 0, 1), 0);
        Due.is("still no round", x.about(20), NONE);
        Due.is("still no turn", x.about(6), NONE);
    }

    private static void rulesAtFirst() {
        Due.by("RULES at first 3, 5, 3, 20");
        Mill x = withFarms(1);
        Due.is("gangs", x.about(4), 3);
        Due.is("trucks", x.about(5), 3);
        x.field(0, 21, 0, 10, 0, 1);
        x.field(0, 10, 0, 10, 0, 1);
        x.round(0);
        Due.is("a fourth gang", x.cut(0, 4), false);
        Due.is("three gangs", x.cut(0, 3), true);
        x.hours(1);
        Due.is("rate of three", x.fieldOf(0, 3), 15);
        x.hours(2);
        Due.is("at the mill", x.load(0, 4), 3);
        Due.is("not yet crushed", x.about(7), 0);
        x.hours(1);
        Due.is("crush", x.about(7), 20);
        x.hours(1);
        Due.is("the last ton", x.about(7), 21);
    }

    /** What is seen of these rules as an hour goes by. */
    private static void rulesShow(int gangs, int rate, int trucks, int crush) {
        Mill x = withFarms(1);
        Due.is("rules", x.rules(gangs, rate, trucks, crush), true);
        Due.is("gangs", x.about(4), gangs);
        Due.is("trucks", x.about(5), trucks);
        x.field(0, 200, 0, 10, 0, 1);
        x.round(0);
        Due.is("one gang too many", x.cut(0, gangs + 1), false);
        Due.is("all gangs", x.cut(0, gangs), true);
        Due.is("none is free", x.about(4), 0);
        x.hours(1);
        Due.is("rate", x.fieldOf(0, 3), gangs * rate);
    }

    private static void rulesTakeTheirBounds() {
        Due.by("GANGS (1 .. 9), RATE (1 .. 20), TRUCKS (1 .. 9), CRUSH (1 .. 100)");
        rulesShow(1, 5, 3, 20);
        rulesShow(9, 5, 3, 20);
        rulesShow(3, 1, 3, 20);
        rulesShow(3, 20, 3, 20);
        rulesShow(3, 5, 1, 20);
        rulesShow(3, 5, 9, 20);
        rulesShow(3, 5, 3, 1);
        rulesShow(3, 5, 3, 100);
        crushOf(1);
        crushOf(100);
    }

    private static void crushOf(int crush) {
        Mill x = withFarms(1);
        x.rules(9, 20, 9, crush);
        x.field(0, 180, 0, 10, 0, 1);
        x.round(0);
        x.cut(0, 9);
        x.hours(2);
        Due.is("nothing crushed", x.about(7), 0);
        x.hours(1);
        Due.is("crush " + crush, x.about(7), crush);
    }

    private static void rulesRefuseOthers() {
        Due.by("2: False, changing nothing, for others");
        int[] least = {1, 1, 1, 1};
        int[] most = {9, 20, 9, 100};
        for (int i = 0; i < 4; i++) {
            for (int wrong : new int[] {least[i] - 1, most[i] + 1, -1, LEAST, MOST}) {
                int[] r = {2, 3, 4, 50};
                r[i] = wrong;
                Refusal.isFalse("rules with " + wrong + " at " + i, FarmsEdgesTest::busy,
                        x -> x.rules(r[0], r[1], r[2], r[3]));
            }
        }
    }

    private static void rulesRefuseOnceAnHourHasGoneBy() {
        Due.by("2: False, changing nothing, .. if an HOUR has gone by");
        Mill x = new Mill();
        x.hours(0);
        x.hours(101);
        Due.is("refused hours have not gone by", x.rules(9, 9, 9, 9), true);
        Due.is("gangs", x.about(4), 9);
        Due.is("rules may come again", x.rules(2, 2, 2, 2), true);
        Due.is("gangs", x.about(4), 2);
        Refusal.isFalse("rules behind an hour", y -> {
            busy(y);
            y.hours(1);
        }, y -> y.rules(9, 20, 9, 100));
    }

    private static void farmsAreTen() {
        Due.by("FARMS 0 .. 9; 3: NONE if there are 10");
        Mill x = new Mill();
        for (int i = 0; i <= 9; i++) {
            Due.is("farm", x.farm(), i);
            Due.is("farms", x.about(1), i + 1);
        }
        Due.is("an eleventh", x.farm(), NONE);
        Due.is("a twelfth", x.farm(), NONE);
        Due.is("farms", x.about(1), 10);
        Due.is("the last one's field", x.field(9, 1, 0, 1, 0, 1), 0);
        Due.is("none of an eleventh", x.field(10, 1, 0, 1, 0, 1), NONE);
        Refusal.isNone("an eleventh farm", y -> {
            for (int i = 0; i < 8; i++) {
                y.farm();
            }
            busy(y);
        }, Mill::farm);
    }

    private static void fieldsAreSixteen() {
        Due.by("FIELDS 0 .. 15; 4: NONE .. if there are 16");
        Mill x = withFarms(1);
        for (int i = 0; i <= 15; i++) {
            Due.is("field", x.field(0, i + 1, 0, 1, 0, 1), i);
            Due.is("fields", x.about(2), i + 1);
        }
        Due.is("a 17th", x.field(0, 100, 0, 1, 0, 1), NONE);
        Due.is("fields", x.about(2), 16);
        Due.is("the first one's tons", x.fieldOf(0, 1), 1);
        Due.is("the last one's tons", x.fieldOf(15, 1), 16);
        Due.is("no 17th", x.fieldOf(16, 1), NONE);
        Refusal.isNone("a 17th field", y -> {
            busy(y);
            for (int i = 3; i < 16; i++) {
                y.field(1, 20, 0, 9, 0, 9);
            }
        }, y -> y.field(0, 20, 0, 9, 0, 9));
    }

    private static final int[] FIELD = {1, 20, 10, 10, 100, 10};
    private static final int[] LEAST_FIELD = {0, 1, 0, 1, 0, 1};
    private static final int[] MOST_FIELD = {1, 200, 60, 30, 4000, 100};

    private static int fieldWith(Mill x, int place, int value) {
        int[] f = FIELD.clone();
        f[place] = value;
        return x.field(f[0], f[1], f[2], f[3], f[4], f[5]);
    }

    private static void fieldsTakeTheirBounds() {
        Due.by("TONS (1 .. 200), KM (0 .. 60), TOP (1 .. 30), RIPE (0 .. 4000), FADES (1 .. 100)");
        Mill x = withFarms(2);
        for (int i = 0; i < FIELD.length; i++) {
            Due.is("the least at " + i, fieldWith(x, i, LEAST_FIELD[i]), 2 * i);
            Due.is("the most at " + i, fieldWith(x, i, MOST_FIELD[i]), 2 * i + 1);
        }
        Due.is("farm 0", x.fieldOf(0, 0), 0);
        Due.is("farm 1", x.fieldOf(1, 0), 1);
        Due.is("1 ton", x.fieldOf(2, 1), 1);
        Due.is("200 tons", x.fieldOf(3, 1), 200);
        Due.is("top 1", x.sweet(6, 100), 1);
        Due.is("top 30", x.sweet(7, 100), 30);
        Due.is("ripe at 0", x.sweet(8, 0), 10);
        Due.is("ripe at 0, later", x.sweet(8, 10), 9);
        Due.is("ripe at 4000", x.sweet(9, 4000), 10);
        Due.is("ripe at 4000, earlier", x.sweet(9, 3990), 9);
        Due.is("fades each hour", x.sweet(10, 101), 9);
        Due.is("fades each hundred, ahead of it", x.sweet(11, 199), 10);
        Due.is("fades each hundred", x.sweet(11, 200), 9);
    }

    private static void fieldsRefuseOthers() {
        Due.by("4: NONE for others");
        for (int i = 0; i < FIELD.length; i++) {
            int place = i;
            for (int wrong : new int[] {LEAST_FIELD[i] - 1, MOST_FIELD[i] + 1, LEAST, MOST}) {
                Refusal.isNone("field with " + wrong + " at " + i, FarmsEdgesTest::busy,
                        x -> fieldWith(x, place, wrong));
            }
        }
    }

    private static void fieldsAreAFarms() {
        Due.by("FIELDS: a FARM's");
        Mill x = new Mill();
        for (int farms = 0; farms < 10; farms++) {
            Due.is("of the next farm", x.field(farms, 1, 0, 1, 0, 1), NONE);
            x.farm();
            Due.is("of the latest", x.field(farms, 1, 0, 1, 0, 1), farms);
            Due.is("farm", x.fieldOf(farms, 0), farms);
        }
    }

    private static void sweetIsCut() {
        Due.by("SWEET: TOP less how far that is from RIPE / FADES, cut");
        Mill x = withFarms(1);
        x.field(0, 1, 0, 30, 2000, 7);
        for (int lost = 0; lost < 30; lost++) {
            Due.is("first hour behind", x.sweet(0, 2000 + 7 * lost), 30 - lost);
            Due.is("last hour behind", x.sweet(0, 2000 + 7 * lost + 6), 30 - lost);
            Due.is("first hour ahead", x.sweet(0, 2000 - 7 * lost), 30 - lost);
            Due.is("last hour ahead", x.sweet(0, 2000 - 7 * lost - 6), 30 - lost);
        }
    }

    private static void sweetIs0AtLeast() {
        Due.by("SWEET: 0 at least");
        Mill x = withFarms(1);
        x.field(0, 1, 0, 3, 100, 5);
        Due.is("1 is left", x.sweet(0, 114), 1);
        Due.is("none is left", x.sweet(0, 115), 0);
        Due.is("nor below", x.sweet(0, 120), 0);
        Due.is("far behind", x.sweet(0, 4000), 0);
        Due.is("1 is left ahead", x.sweet(0, 86), 1);
        Due.is("none is left ahead", x.sweet(0, 85), 0);
        Due.is("far ahead", x.sweet(0, 0), 0);
    }

    private static void sweetTakesTheHoursBounds() {
        Due.by("16: an HOUR (0 .. 4000); NONE for others");
        Mill x = withFarms(1);
        x.field(0, 1, 0, 30, 0, 100);
        x.field(0, 1, 0, 30, 4000, 100);
        for (int burnt = 0; burnt < 2; burnt++) {
            Due.is("hour 0", x.sweet(0, 0), 30 - 2 * burnt);
            Due.is("hour 4000", x.sweet(1, 4000), burnt == 0 ? 30 : 0);
            for (int wrong : new int[] {-1, 4001, LEAST, MOST}) {
                Due.is("hour " + wrong, x.sweet(0, wrong), NONE);
                Due.is("hour " + wrong, x.sweet(1, wrong), NONE);
            }
            for (int wrong : new int[] {-1, 2, 15, 16, LEAST, MOST}) {
                Due.is("field " + wrong, x.sweet(wrong, 0), NONE);
            }
            x.fire(0);
            x.fire(1);
        }
    }

    private static void weatherTakesItsBounds() {
        Due.by("5: from an HOUR (not ahead of the clock's) to one behind it (4000 at most): true");
        for (boolean stops : new boolean[] {false, true}) {
            Mill x = new Mill();
            Due.is("from the clock's", x.weather(stops, 0, 1), true);
            Due.is("to the last", x.weather(stops, 0, 4000), true);
            Due.is("the last hour", x.weather(stops, 3999, 4000), true);
            x.hours(50);
            Due.is("from the clock's", x.weather(stops, 50, 51), true);
            Due.is("from a later one", x.weather(stops, 51, 52), true);
            Due.is("from an earlier one", x.weather(stops, 49, 52), false);
        }
    }

    private static void weatherRefusesOthers() {
        Due.by("5: False for others");
        int[][] wrong = {{2, 10}, {3, 3}, {4, 3}, {10, 10}, {10, 9}, {0, 4000}, {3, 4001}, {4000, 4001}, {4000, 4000},
            {-1, 10}, {LEAST, 10}, {5, LEAST}, {5, MOST}, {MOST, LEAST}, {MOST, MOST}, {LEAST, MOST}, {-5, -3}};
        for (int[] span : wrong) {
            for (boolean stops : new boolean[] {false, true}) {
                Refusal.isFalse("weather " + stops + " " + span[0] + " to " + span[1], x -> {
                    busy(x);
                    x.hours(3);
                }, x -> x.weather(stops, span[0], span[1]));
            }
        }
    }

    private static void weatherIsTwentyOfBoth() {
        Due.by("5: False .. if there are 20 of both");
        for (int rains = 0; rains <= 20; rains += 5) {
            Mill x = new Mill();
            for (int i = 0; i < 20; i++) {
                Due.is("refused ones don't count", x.weather(i % 2 == 0, 5, 5), false);
                Due.is("number " + i, x.weather(i >= rains, 2 * i, 2 * i + 1), true);
            }
            Due.is("one more, rain", x.weather(false, 100, 101), false);
            Due.is("one more, a stop", x.weather(true, 100, 101), false);
            x.hours(100);
            Due.is("those that are over are there, too", x.weather(false, 100, 101), false);
        }
        for (boolean stops : new boolean[] {false, true}) {
            Refusal.isFalse("a 21st", x -> {
                busy(x);
                for (int i = 2; i < 20; i++) {
                    x.weather(i % 2 == 0, 100 + i, 101 + i);
                }
            }, x -> x.weather(stops, 1, 50));
        }
    }

    private static void rainIsInItsHoursAlone() {
        Due.by("RAIN: HOURS from one to the one ahead of another");
        Mill x = withFarms(1);
        x.field(0, 200, 0, 10, 0, 1);
        x.round(0);
        x.cut(0, 1);
        x.weather(false, 3, 5);
        x.weather(false, 6, 7);
        x.weather(true, 8, 9);
        int[] due = {5, 10, 15, 15, 15, 20, 20, 25, 30, 35};
        for (int hour = 0; hour < due.length; hour++) {
            x.hours(1);
            Due.is("tons cut behind hour " + hour, x.fieldOf(0, 3), due[hour]);
        }
        Mill y = withFarms(1);
        y.field(0, 200, 0, 10, 0, 1);
        y.round(0);
        y.cut(0, 1);
        y.weather(false, 2, 6);
        y.weather(false, 3, 4);
        y.hours(6);
        Due.is("rain that is told twice is rain once", y.fieldOf(0, 3), 10);
    }

    private static void stopsAreInTheirHoursAlone() {
        Due.by("STOPS of the mill: HOURS from one to the one ahead of another");
        Mill x = withFarms(1);
        x.rules(9, 20, 3, 3);
        x.field(0, 180, 0, 10, 0, 1);
        x.round(0);
        x.cut(0, 9);
        x.weather(true, 4, 6);
        x.weather(true, 7, 8);
        x.weather(false, 9, 10);
        int[] due = {0, 0, 3, 6, 6, 6, 9, 9, 12, 15, 18};
        for (int hour = 0; hour < due.length; hour++) {
            x.hours(1);
            Due.is("tons crushed behind hour " + hour, x.about(7), due[hour]);
        }
    }

    private static void weatherAtTheLastHour() {
        Due.by("5: to one behind it (4000 at most)");
        Mill x = withFarms(1);
        x.field(0, 200, 0, 10, 0, 1);
        x.field(0, 200, 0, 10, 0, 1);
        for (int i = 0; i < 39; i++) {
            x.hours(100);
        }
        x.hours(98);
        x.weather(false, 3999, 4000);
        x.round(0);
        x.cut(0, 1);
        x.hours(1);
        Due.is("no rain in hour 3998", x.fieldOf(0, 3), 5);
        x.hours(1);
        Due.is("rain in hour 3999", x.fieldOf(0, 3), 5);
        Due.is("none from hour 4000", x.weather(false, 4000, 4001), false);
        Due.is("none from hour 4000", x.weather(true, 4000, 4000), false);
        x.round(0);
        Due.is("a cut begins at hour 4000", x.cut(1, 1), true);
    }

    /** The orders were reckoned outside this program, in numbers without bounds. */
    private static void lotIsOf32Bits() {
        Due.by("s becomes s * 1103515245 + 12345 (32 bits), place i changes with i + (s >>> 16) % (n - i)");
        orderIs(0, 0, 3, 6, 8, 4, 5, 7, 2, 1, 9);
        orderIs(1, 8, 7, 3, 5, 1, 2, 0, 9, 6, 4);
        orderIs(-1, 7, 9, 8, 3, 5, 1, 6, 2, 0, 4);
        orderIs(MOST, 9, 8, 1, 0, 7, 6, 5, 3, 2, 4);
        orderIs(LEAST, 8, 4, 6, 7, 2, 3, 5, 0, 1, 9);
        orderIs(123456789, 6, 5, 2, 3, 1, 9, 4, 0, 8, 7);
        orderIs(-987654321, 9, 8, 7, 0, 4, 2, 1, 6, 5, 3);
        Due.by("LOT: to i = n - 2");
        orderIs(7, 0);
        orderIs(-1, 0);
        orderIs(0, 0, 1);
        orderIs(-1, 1, 0);
        orderIs(MOST, 1, 0);
        orderIs(1, 2, 1, 0);
        orderIs(2, 1, 2, 0);
        orderIs(MOST, 2, 0, 1);
    }

    private static void lotIsOfTheRowOfNumbers() {
        Due.by("LOT: of the row of their numbers");
        Mill x = withFarms(10);
        roundOrders(x, 1, 8, 7, 3, 5, 1, 2, 0, 9, 6, 4);
        roundOrders(x, 0, 0, 3, 6, 8, 4, 5, 7, 2, 1, 9);
        roundOrders(x, LEAST, 8, 4, 6, 7, 2, 3, 5, 0, 1, 9);
        roundOrders(x, -1, 7, 9, 8, 3, 5, 1, 6, 2, 0, 4);
        roundOrders(x, -1, 7, 9, 8, 3, 5, 1, 6, 2, 0, 4);
    }

    private static void orderIs(int seed, int... order) {
        roundOrders(withFarms(order.length), seed, order);
    }

    private static void roundOrders(Mill x, int seed, int... order) {
        Due.is("round(" + seed + ")", x.round(seed), order[0]);
        for (int i = 0; i < order.length; i++) {
            Due.is("place " + i + " by " + seed, x.about(20 + i), order[i]);
        }
        Due.is("behind the order", x.about(20 + order.length), NONE);
        for (int i = 1; i < order.length; i++) {
            Due.is("turn " + i + " by " + seed, x.pass(), order[i]);
        }
        Due.is("behind the last", x.pass(), NONE);
    }

    private static void lotIsOfAllFarms() {
        Due.by("THE ROUND: an order of all FARMS");
        Mill x = withFarms(2);
        x.round(0);
        x.farm();
        Due.is("a farm that came later is in no place", x.about(22), NONE);
        Due.is("second", x.pass(), 1);
        Due.is("it has no turn", x.pass(), NONE);
        x.field(2, 1, 0, 1, 0, 1);
        Due.is("nor does it cut", x.cut(0, 1), false);
        x.round(0);
        Due.is("it is in the next order", x.about(22), 2);
        x.pass();
        Due.is("and has its turn", x.pass(), 2);
        Due.is("and cuts", x.cut(0, 1), true);
    }

    private static void roundWithoutFarms() {
        Due.by("6: NONE: no FARMS");
        Refusal.isNone("round without farms", x -> { }, x -> x.round(1));
        Mill x = new Mill();
        x.round(1);
        x.farm();
        Due.is("no turn", x.about(6), NONE);
        Due.is("no order", x.about(20), NONE);
        Due.is("one farm", x.round(1), 0);
    }

    private static void roundBeginsAnew() {
        Due.by("6: A ROUND begins: the FARM whose TURN it is");
        Mill x = withFarms(3);
        x.field(2, 100, 0, 1, 0, 1);
        x.field(2, 100, 0, 1, 0, 1);
        Due.is("first round", x.round(1), 2);
        Due.is("cut", x.cut(0, 1), true);
        Due.is("turn", x.about(6), 1);
        Due.is("not again in this round", x.cut(1, 1), false);
        Due.is("pass", x.pass(), 0);
        Due.is("a round in the midst of one", x.round(1), 2);
        Due.is("cut again", x.cut(1, 1), true);
        x.pass();
        x.pass();
        Due.is("nobody's", x.about(6), NONE);
        Due.is("a round behind one", x.round(2), 1);
        Due.is("turn", x.about(6), 1);
    }

    private static void turnIsTheFirstThatHasNeitherCutNorPassed() {
        Due.by("THE TURN: the first FARM of the order that hasn't cut in this ROUND, nor passed; none, if there is none");
        Mill x = withFarms(3);
        for (int farm = 0; farm < 3; farm++) {
            x.field(farm, 100, 0, 1, 0, 1);
        }
        x.round(2);
        Due.is("the first", x.about(6), 1);
        Due.is("the second can't yet", x.cut(2, 1), false);
        Due.is("the third can't yet", x.cut(0, 1), false);
        Due.is("the first cuts", x.cut(1, 1), true);
        Due.is("the second", x.about(6), 2);
        Due.is("the second passes", x.pass(), 0);
        Due.is("it can't cut then", x.cut(2, 1), false);
        Due.is("the third cuts", x.cut(0, 1), true);
        Due.is("none", x.about(6), NONE);
        Due.is("none can cut", x.cut(2, 1), false);
    }

    private static void passOfNobody() {
        Due.by("7: NONE, too, if it is nobody's");
        Refusal.isNone("pass without a round", x -> {
            x.farm();
            x.field(0, 9, 0, 9, 0, 9);
        }, Mill::pass);
        Refusal.isNone("pass behind the last", FarmsEdgesTest::busy, Mill::pass);
        Mill x = withFarms(1);
        x.round(0);
        Due.is("the last one's pass", x.pass(), NONE);
        Due.is("order stays", x.about(20), 0);
    }
}
