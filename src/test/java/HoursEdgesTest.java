/**
 * The edges of an hour that goes by: loads, trucks, the mill, what is lost and what is paid (part II of the
 * terms, promises 10, 18, 19, 22 and 23): a method for each sentence that names one.
 */
public final class HoursEdgesTest {
    private static final int NONE = CaneRounds.NONE;
    private static final int NOTHING = -2000000000;
    private static final int LEAST = Integer.MIN_VALUE;
    private static final int MOST = Integer.MAX_VALUE;

    public static void main(String[] args) {
        hoursAreOneToAHundred();
        hoursEndAt4000();
        aLoadOfTheLastHour();
        cutsGoOnByRateForEachGang();
        loadsHaveTheSweetOfTheHourBehind();
        loadsDieAfter24Or12();
        loadsOfOneHourGoByFields();
        theWayToTheMill();
        trucksGoByLoadsNumbers();
        trucksAreFreeAsManyHoursBehind();
        trucksAreOneToNine();
        trucksGoInRainAndAtStops();
        theMillCrushesFromTheHourOfComing();
        theMillCrushesAsFarAsTheyGo();
        theMillCrushesSixteenLoadsInAnHour();
        allTonsOfAllFields();
        theMillTakesWhatDiesFirst();
        ofLikeOnesTheLowest();
        lostAtTheHourBehind();
        lostWhileItWaitsOrGoes();
        overWhenAllIsCrushedOrLost();
        loadOfOthers();
        bundleOfOthers();
        aDayHas24Hours();
        paidInTheDayInWhichItIsOver();
        meanIsCut();
        meanIs0Without();
        paidByTheLoadsOwnNumbers();
        paidOfOthers();
        aboutOthers();
        theLastOf512Calls();
        Due.finish();
    }

    /** A farm that cuts as often as it likes, by these rules. */
    private static Mill mill(int gangs, int rate, int trucks, int crush) {
        Mill x = new Mill();
        x.farm();
        Due.is("rules", x.rules(gangs, rate, trucks, crush), true);
        return x;
    }

    private static void cut(Mill x, int field, int gangs) {
        x.round(0);
        Due.is("cut(" + field + ", " + gangs + ")", x.cut(field, gangs), true);
    }

    private static void later(Mill x, int hours) {
        for (int left = hours; left > 0; left -= 100) {
            x.hours(Math.min(left, 100));
        }
    }

    private static void working(Mill x) {
        x.farm();
        x.rules(9, 20, 2, 7);
        for (int i = 0; i < 4; i++) {
            x.field(0, 40, 15 * i, 20, 30, 5);
        }
        cut(x, 0, 1);
        cut(x, 1, 2);
        x.fire(2);
        x.weather(false, 5, 8);
        Due.feed(x, "s-m");
        x.hours(4);
    }

    private static void hoursAreOneToAHundred() {
        Due.by("10: n HOURS go by (1 .. 100): the clock. NONE for others");
        for (int n : new int[] {0, 101, -1, LEAST, MOST}) {
            Refusal.isNone("hours(" + n + ")", HoursEdgesTest::working, x -> x.hours(n));
        }
        Mill x = new Mill();
        Due.is("the least", x.hours(1), 1);
        Due.is("the most", x.hours(100), 101);
        Due.is("clock", x.about(0), 101);
        Mill once = new Mill();
        Mill oneByOne = new Mill();
        working(once);
        working(oneByOne);
        once.hours(30);
        for (int i = 0; i < 30; i++) {
            oneByOne.hours(1);
        }
        for (int what = 0; what <= 10; what++) {
            Due.is("30 at once, about(" + what + ")", once.about(what), oneByOne.about(what));
        }
    }

    private static void hoursEndAt4000() {
        Due.by("10: NONE .. beyond 4000");
        Mill x = new Mill();
        later(x, 3900);
        Due.is("to the last", x.hours(100), 4000);
        Mill y = new Mill();
        later(y, 3901);
        Due.is("one beyond", y.hours(100), NONE);
        Due.is("clock", y.about(0), 3901);
        Due.is("to the last", y.hours(99), 4000);
        Due.is("behind the last", y.hours(1), NONE);
        Due.is("clock", y.about(0), 4000);
        Refusal.isNone("beyond 4000", z -> {
            later(z, 3930);
            working(z);
        }, z -> z.hours(67));
    }

    private static void aLoadOfTheLastHour() {
        Due.by("HOURS 0 .. 4000: what an HOUR at the end leads to");
        Mill x = mill(9, 20, 9, 100);
        x.field(0, 20, 60, 30, 4000, 1);
        later(x, 3999);
        cut(x, 0, 1);
        Due.is("hour 4000", x.hours(1), 4000);
        int[] due = {0, 4000, 30, 4024, 4006, 0, 0, 0, NOTHING};
        for (int what = 0; what < due.length; what++) {
            Due.is("load(0, " + what + ")", x.load(0, what), due[what]);
        }
    }

    private static void cutsGoOnByRateForEachGang() {
        Due.by("each CUT goes on by RATE for each of its gangs");
        Mill x = mill(9, 7, 9, 1);
        x.field(0, 200, 0, 9, 0, 9);
        x.field(0, 22, 0, 9, 0, 9);
        x.field(0, 21, 0, 9, 0, 9);
        cut(x, 0, 5);
        cut(x, 1, 3);
        cut(x, 2, 1);
        int[][] due = {{35, 21, 7}, {70, 22, 14}, {105, 22, 21}, {140, 22, 21}, {175, 22, 21}, {200, 22, 21}};
        for (int[] tons : due) {
            x.hours(1);
            for (int field = 0; field < 3; field++) {
                Due.is("tons cut of " + field, x.fieldOf(field, 3), tons[field]);
                Due.is("state of " + field, x.fieldOf(field, 2), tons[field] == x.fieldOf(field, 1) ? 2 : 1);
            }
        }
    }

    private static void loadsHaveTheSweetOfTheHourBehind() {
        Due.by("a LOAD is there: CUT-AT the HOUR behind this one, SWEET of that HOUR");
        Mill x = mill(3, 5, 3, 20);
        x.field(0, 15, 0, 30, 0, 1);
        x.field(0, 15, 0, 30, 50, 2);
        cut(x, 0, 1);
        cut(x, 1, 1);
        x.hours(2);
        Due.is("no load yet", x.about(3), 0);
        x.hours(1);
        Due.is("cut-at", x.load(0, 1), 3);
        Due.is("it fades", x.load(0, 2), 27);
        Due.is("it ripens", x.load(1, 2), 30 - 47 / 2);
        x.hours(10);
        Due.is("its sweet stays", x.load(0, 2), 27);
    }

    private static void loadsDieAfter24Or12() {
        Due.by("DIES 24 HOURS behind CUT-AT (12, if BURNT)");
        Mill x = mill(3, 5, 1, 1);
        x.field(0, 15, 0, 30, 0, 1);
        x.field(0, 15, 0, 30, 0, 1);
        cut(x, 0, 1);
        x.fire(1);
        cut(x, 1, 1);
        x.hours(3);
        Due.is("dies", x.load(0, 3), 27);
        Due.is("burnt, dies", x.load(1, 3), 15);
        Due.is("burnt, sweet as told", x.load(1, 2), 28);
    }

    private static void loadsOfOneHourGoByFields() {
        Due.by("LOADS' numbers");
        Mill x = mill(9, 5, 1, 1);
        for (int i = 0; i < 3; i++) {
            x.field(0, i == 1 ? 5 : 10, 0, 30, 0, 1);
        }
        cut(x, 2, 1);
        cut(x, 1, 1);
        cut(x, 0, 1);
        x.hours(2);
        Due.is("the first", x.load(0, 0), 1);
        Due.is("of the next hour, the lower field's", x.load(1, 0), 0);
        Due.is("of the next hour, the higher field's", x.load(2, 0), 2);
        Due.is("field 0's load", x.fieldOf(0, 6), 1);
        Due.is("field 1's load", x.fieldOf(1, 6), 0);
        Due.is("field 2's load", x.fieldOf(2, 6), 2);
    }

    private static void theWayToTheMill() {
        Due.by("it is AT THE MILL (KM + 9) / 10 HOURS later (at least 1)");
        int[][] ways = {{0, 1}, {1, 1}, {9, 1}, {10, 1}, {11, 2}, {20, 2}, {21, 3}, {30, 3}, {31, 4}, {40, 4}, {41, 5},
            {50, 5}, {51, 6}, {60, 6}};
        for (int[] way : ways) {
            Mill x = mill(3, 5, 3, 20);
            x.field(0, 5, way[0], 9, 0, 9);
            x.hours(10);
            cut(x, 0, 1);
            Due.is("no load yet", x.load(0, 4), NONE);
            x.hours(1);
            Due.is("at the mill from " + way[0] + " km", x.load(0, 4), 11 + way[1]);
            Due.is("one is away", x.about(5), 2);
            later(x, 2 * way[1] - 1);
            Due.is("still away", x.about(5), 2);
            x.hours(1);
            Due.is("free as many hours behind that", x.about(5), 3);
        }
    }

    private static void trucksGoByLoadsNumbers() {
        Due.by("TRUCKS, by the LOADS' numbers: a LOAD that is there and has no TRUCK gets one that is free");
        Mill x = mill(9, 20, 2, 100);
        for (int i = 0; i < 4; i++) {
            x.field(0, i == 0 ? 40 : 20, 60 - 20 * i, 9, 0, 9);
            cut(x, i, 1);
        }
        x.hours(1);
        Due.is("loads", x.about(3), 3);
        Due.is("load 0 is field 1's", x.load(0, 0), 1);
        Due.is("load 0 leaves at 1", x.load(0, 4), 1 + 4);
        Due.is("load 1 leaves at 1", x.load(1, 4), 1 + 2);
        Due.is("load 2 waits", x.load(2, 4), NONE);
        x.hours(4);
        Due.is("a truck is free at 5", x.about(5), 1);
        Due.is("load 2 waits", x.load(2, 4), NONE);
        x.hours(1);
        Due.is("load 2, the lowest, leaves at 6", x.load(2, 4), 6 + 1);
        Due.is("load 3, the higher one, waits", x.load(3, 4), NONE);
        x.hours(3);
        Due.is("load 3 leaves at 9", x.load(3, 4), 9 + 6);
    }

    private static void trucksAreFreeAsManyHoursBehind() {
        Due.by("its TRUCK free as many HOURS behind that");
        Mill x = mill(9, 20, 1, 100);
        x.field(0, 20, 11, 9, 0, 9);
        x.field(0, 20, 0, 9, 0, 9);
        cut(x, 0, 1);
        cut(x, 1, 1);
        x.hours(1);
        Due.is("at the mill", x.load(0, 4), 3);
        for (int clock = 1; clock <= 4; clock++) {
            Due.is("none free at " + clock, x.about(5), 0);
            Due.is("the other waits at " + clock, x.load(1, 4), NONE);
            x.hours(1);
        }
        Due.is("free at 5", x.about(5), 1);
        Due.is("the other waits at 5", x.load(1, 4), NONE);
        x.hours(1);
        Due.is("it left at 6", x.load(1, 4), 7);
        Due.is("none free", x.about(5), 0);
    }

    private static void trucksAreOneToNine() {
        Due.by("TRUCKS (1 .. 9)");
        for (int trucks : new int[] {1, 9}) {
            Mill x = mill(9, 20, trucks, 100);
            for (int i = 0; i < 10; i++) {
                x.field(0, i < 8 ? 10 : 20, 60, 9, 0, 9);
            }
            for (int i = 0; i < 9; i++) {
                cut(x, i, 1);
            }
            x.hours(1);
            cut(x, 9, 1);
            x.hours(1);
            int away = 0;
            for (int i = 0; i < 10; i++) {
                away += x.load(i, 4) == NONE ? 0 : 1;
            }
            Due.is("loads", x.about(3), 10);
            Due.is("that have a truck", away, trucks);
            Due.is("the last one has none", x.load(9, 4), NONE);
            Due.is("free", x.about(5), 0);
        }
    }

    private static void trucksGoInRainAndAtStops() {
        Due.by("First, if no RAIN is in it .. Then TRUCKS .. Then the mill, if it doesn't STOP");
        Mill x = mill(9, 20, 1, 10);
        x.field(0, 20, 0, 9, 0, 9);
        x.field(0, 20, 0, 9, 0, 9);
        cut(x, 0, 1);
        cut(x, 1, 1);
        x.weather(false, 1, 50);
        x.weather(true, 1, 4);
        x.hours(4);
        Due.is("load 1 left in rain and stop", x.load(1, 4), 5);
        Due.is("the mill stopped", x.about(7), 0);
        x.hours(1);
        Due.is("the mill crushes in the rain", x.about(7), 10);
    }

    private static void theMillCrushesFromTheHourOfComing() {
        Due.by("it crushes CRUSH tons of LOADS that are AT THE MILL (not later than this HOUR)");
        Mill x = mill(9, 20, 9, 6);
        x.field(0, 20, 25, 9, 0, 9);
        cut(x, 0, 1);
        x.hours(4);
        Due.is("at the mill", x.load(0, 4), 4);
        Due.is("nothing in the hour ahead", x.load(0, 5), 0);
        x.hours(1);
        Due.is("in the hour of its coming", x.load(0, 5), 6);
        x.hours(2);
        Due.is("three hours", x.load(0, 5), 18);
        Due.is("not over", x.load(0, 7), 0);
        x.hours(1);
        Due.is("the rest", x.load(0, 5), 20);
        Due.is("over", x.load(0, 7), 1);
        Due.is("crushed", x.about(7), 20);
    }

    private static void theMillCrushesAsFarAsTheyGo() {
        Due.by("it crushes CRUSH tons .. as far as they go");
        Mill x = mill(9, 20, 9, 25);
        for (int i = 0; i < 3; i++) {
            x.field(0, 10, 0, 9, 0, 9);
            cut(x, i, 1);
        }
        x.hours(3);
        Due.is("the first", x.load(0, 5), 10);
        Due.is("the second", x.load(1, 5), 10);
        Due.is("what is left for the third", x.load(2, 5), 5);
        x.hours(1);
        Due.is("no more than there is", x.about(7), 30);
        Due.is("the third", x.load(2, 5), 10);
    }

    private static void theMillCrushesSixteenLoadsInAnHour() {
        Due.by("it crushes CRUSH tons .. as far as they go: of all 16 LOADS");
        for (int tons = 6; tons <= 7; tons++) {
            Mill x = mill(9, 20, 9, 100);
            x.weather(true, 0, 10);
            for (int i = 0; i < 16; i++) {
                if (i == 8) {
                    x.hours(3);
                }
                x.field(0, tons, 0, 9, 0, 9);
                cut(x, i, 1);
            }
            x.hours(7);
            Due.is("loads", x.about(3), 16);
            Due.is("crushed", x.about(7), 0);
            x.hours(1);
            Due.is("crushed", x.about(7), Math.min(100, 16 * tons));
            for (int i = 0; i < 16; i++) {
                Due.is("load " + i, x.load(i, 5), Math.max(0, Math.min(tons, 100 - i * tons)));
            }
            Due.is("no 17th", x.load(16, 5), NONE);
        }
    }

    private static void allTonsOfAllFields() {
        Due.by("FIELDS 0 .. 15, TONS (1 .. 200): all of them are crushed and PAID");
        for (int sign = -1; sign <= 1; sign += 2) {
            Mill x = mill(9, 20, 9, 100);
            Due.is("text", Due.text(x, (sign < 0 ? "-" : "") + "9999*9999*9999"), true);
            for (int i = 0; i < 16; i++) {
                Due.is("field", x.field(0, 200, 0, 9, 0, 9), i);
                cut(x, i, 9);
                x.hours(6);
            }
            Due.is("crushed", x.about(7), 3200);
            for (int i = 0; i < 16; i++) {
                Due.is("its first ton", x.bundle(200 * i), i);
                Due.is("its last ton", x.bundle(200 * i + 199), i);
            }
            Due.is("behind the last", x.bundle(3200), NONE);
            Due.is("paid", x.paid(0), sign * 16000000000L);
        }
    }

    private static void theMillTakesWhatDiesFirst() {
        Due.by("the one that DIES first");
        Mill x = mill(9, 20, 9, 10);
        x.field(0, 20, 60, 9, 0, 9);
        x.field(0, 20, 0, 9, 0, 9);
        x.field(0, 20, 0, 9, 0, 9);
        x.fire(2);
        x.hours(3);
        cut(x, 0, 1);
        x.hours(6);
        cut(x, 1, 1);
        cut(x, 2, 1);
        x.hours(1);
        Due.is("field 0's load dies", x.load(0, 3), 28);
        Due.is("field 1's load dies", x.load(1, 3), 34);
        Due.is("field 2's load, burnt, dies", x.load(2, 3), 22);
        x.hours(1);
        Due.is("field 0's load came at 10", x.load(0, 5), 10);
        x.hours(2);
        Due.is("the burnt one goes ahead", x.load(2, 5), 20);
        Due.is("field 0's load waits", x.load(0, 5), 10);
        x.hours(1);
        Due.is("then field 0's", x.load(0, 5), 20);
        Due.is("last what dies last", x.load(1, 5), 0);
        x.hours(1);
        Due.is("last what dies last", x.load(1, 5), 10);
    }

    private static void ofLikeOnesTheLowest() {
        Due.by("the one that DIES first, of like ones the lowest");
        Mill x = mill(9, 20, 9, 10);
        x.field(0, 20, 0, 9, 0, 9);
        x.field(0, 20, 0, 9, 0, 9);
        x.field(0, 20, 0, 9, 0, 9);
        for (int i = 2; i >= 0; i--) {
            cut(x, i, 1);
        }
        x.hours(3);
        for (int ton = 10; ton <= 60; ton += 10) {
            Due.is("crushed", x.about(7), ton);
            Due.is("load 0", x.load(0, 5), Math.min(ton, 20));
            Due.is("load 1", x.load(1, 5), Math.max(0, Math.min(ton - 20, 20)));
            Due.is("load 2", x.load(2, 5), Math.max(0, ton - 40));
            x.hours(1);
        }
    }

    private static void lostAtTheHourBehind() {
        Due.by("what isn't crushed of LOADS that DIE at the HOUR behind this one or ahead of it is LOST");
        for (int burnt = 0; burnt < 2; burnt++) {
            Mill x = mill(9, 20, 9, 1);
            x.field(0, 100, 0, 9, 0, 9);
            if (burnt == 1) {
                x.fire(0);
            }
            cut(x, 0, 5);
            int dies = burnt == 1 ? 13 : 25;
            x.hours(dies - 1);
            Due.is("dies", x.load(0, 3), dies);
            Due.is("nothing is lost", x.load(0, 6), 0);
            Due.is("crushed", x.load(0, 5), dies - 3);
            Due.is("not over", x.load(0, 7), 0);
            x.hours(1);
            Due.is("the mill crushes ahead of the loss", x.load(0, 5), dies - 2);
            Due.is("the rest is lost", x.load(0, 6), 102 - dies);
            Due.is("lost in all", x.about(8), 102 - dies);
            Due.is("over", x.load(0, 7), 1);
            x.hours(5);
            Due.is("what is lost is not crushed", x.about(7), dies - 2);
        }
        lastTonInTheLastHour();
    }

    private static void lastTonInTheLastHour() {
        Mill x = mill(9, 20, 9, 1);
        x.field(0, 23, 0, 9, 0, 9);
        cut(x, 0, 2);
        x.hours(25);
        Due.is("the last ton in the last hour", x.load(0, 5), 23);
        Due.is("nothing is lost", x.about(8), 0);
        Mill y = mill(9, 20, 9, 1);
        y.field(0, 24, 0, 9, 0, 9);
        cut(y, 0, 2);
        y.hours(25);
        Due.is("a ton more", y.load(0, 5), 23);
        Due.is("is lost", y.about(8), 1);
    }

    private static void lostWhileItWaitsOrGoes() {
        Due.by("LOADS that DIE .. is LOST: one without a TRUCK, one on its way, one at a mill that stops");
        Mill x = mill(9, 20, 1, 100);
        for (int i = 0; i < 3; i++) {
            x.field(0, 20, 60, 9, 0, 9);
        }
        x.fire(1);
        x.fire(2);
        for (int i = 0; i < 3; i++) {
            cut(x, i, 1);
        }
        x.hours(12);
        Due.is("load 1 waits for a truck", x.load(1, 4), NONE);
        Due.is("nothing is lost at 12", x.about(8), 0);
        x.hours(1);
        Due.is("load 1 is lost at 13", x.load(1, 6), 20);
        Due.is("load 1 is over", x.load(1, 7), 1);
        Due.is("load 2 is lost at 13", x.load(2, 6), 20);
        x.hours(1);
        Due.is("what is lost gets no truck", x.load(1, 4), NONE);
        Due.is("the truck stays free", x.about(5), 1);
        lostOnItsWay();
        lostAtAMillThatStops();
    }

    private static void lostOnItsWay() {
        Mill x = mill(9, 20, 1, 100);
        x.field(0, 20, 41, 9, 0, 9);
        x.field(0, 20, 41, 9, 0, 9);
        x.fire(1);
        cut(x, 0, 1);
        cut(x, 1, 1);
        x.hours(12);
        Due.is("it left at 12", x.load(1, 4), 17);
        Due.is("not yet lost", x.load(1, 6), 0);
        x.hours(1);
        Due.is("lost on its way", x.load(1, 6), 20);
        Due.is("its truck goes on", x.load(1, 4), 17);
        x.hours(8);
        Due.is("its truck is away at 21", x.about(5), 0);
        x.hours(1);
        Due.is("free at 22", x.about(5), 1);
        Due.is("crushed", x.about(7), 20);
    }

    private static void lostAtAMillThatStops() {
        Mill x = mill(9, 20, 1, 100);
        x.field(0, 20, 0, 9, 0, 9);
        cut(x, 0, 1);
        x.weather(true, 0, 25);
        x.hours(24);
        Due.is("not yet lost", x.about(8), 0);
        x.hours(1);
        Due.is("lost", x.about(8), 20);
        Due.is("nothing crushed", x.about(7), 0);
        Mill y = mill(9, 20, 1, 100);
        y.field(0, 20, 0, 9, 0, 9);
        cut(y, 0, 1);
        y.weather(true, 0, 24);
        y.hours(25);
        Due.is("the last hour is enough", y.about(7), 20);
    }

    private static void overWhenAllIsCrushedOrLost() {
        Due.by("A LOAD is OVER when all of it is crushed or LOST");
        Mill x = mill(9, 20, 9, 19);
        x.field(0, 20, 0, 9, 0, 9);
        cut(x, 0, 1);
        Due.is("no load", x.load(0, 7), NONE);
        x.hours(1);
        Due.is("new", x.load(0, 7), 0);
        x.hours(2);
        Due.is("19 of 20 are crushed", x.load(0, 5), 19);
        Due.is("not over", x.load(0, 7), 0);
        x.hours(1);
        Due.is("over", x.load(0, 7), 1);
        Due.is("lost", x.load(0, 6), 0);
    }

    private static void loadOfOthers() {
        Due.by("18: NONE for others; 4 NONE: it has no TRUCK yet; 8 -2000000000: nothing yet");
        Mill x = mill(9, 20, 1, 10);
        x.field(0, 20, 0, 9, 0, 9);
        x.field(0, 20, 0, 9, 0, 9);
        Due.is("no load at all", x.load(0, 0), NONE);
        Due.is("nor its pay", x.load(0, 8), NONE);
        cut(x, 0, 1);
        cut(x, 1, 1);
        x.hours(1);
        int[][] due = {{0, 1, 9, 25, 2, 0, 0, 0, NOTHING}, {1, 1, 9, 25, NONE, 0, 0, 0, NOTHING}};
        for (int load = 0; load < 2; load++) {
            for (int what = 0; what <= 8; what++) {
                Due.is("load(" + load + ", " + what + ")", x.load(load, what), due[load][what]);
            }
            for (int what : new int[] {-1, 9, 10, LEAST, MOST}) {
                Due.is("load(" + load + ", " + what + ")", x.load(load, what), NONE);
            }
        }
        for (int load : new int[] {-1, 2, 15, 16, LEAST, MOST}) {
            for (int what = 0; what <= 8; what++) {
                Due.is("load(" + load + ", " + what + ")", x.load(load, what), NONE);
            }
        }
        x.hours(22);
        Due.is("nothing yet at 23", x.load(0, 8), NOTHING);
        x.hours(1);
        Due.is("paid at 24", x.load(0, 8), 20);
    }

    private static void bundleOfOthers() {
        Due.by("19: the i-th ton (from 0) that the mill crushed. NONE if there is none such");
        Mill x = mill(9, 20, 9, 3);
        x.field(0, 4, 0, 9, 0, 9);
        x.field(0, 5, 0, 9, 0, 9);
        x.fire(0);
        cut(x, 1, 1);
        x.hours(1);
        cut(x, 0, 1);
        Due.is("none crushed", x.bundle(0), NONE);
        int[] due = {1, 1, 1, 0, 0, 0, 0, 1, 1};
        int[] crushed = {0, 3, 6, 9, 9};
        for (int tons : crushed) {
            x.hours(1);
            for (int i = 0; i < 10; i++) {
                Due.is("bundle " + i + " of " + tons, x.bundle(i), i < tons ? due[i] : NONE);
            }
            for (int wrong : new int[] {-1, LEAST, MOST, 100}) {
                Due.is("bundle " + wrong, x.bundle(wrong), NONE);
            }
        }
    }

    private static void aDayHas24Hours() {
        Due.by("a DAY has 24; if the HOUR behind is a DAY's first one, the DAY is PAID");
        Mill x = mill(9, 20, 9, 100);
        for (int i = 0; i < 4; i++) {
            x.field(0, 10, 0, 10 + i, 4000, 100);
            x.field(0, 10, 0, 30, 24 * i + 5, 1);
        }
        for (int day = 0; day < 4; day++) {
            cut(x, 2 * day + 1, 1);
            x.hours(3);
            Due.is("over", x.load(day, 7), 1);
            x.hours(20);
            Due.is("not yet paid", x.load(day, 8), NOTHING);
            Due.is("paid before", x.paid(0), 10 * day);
            Due.is("mean before", x.about(9), day == 0 ? NONE : 26);
            x.hours(1);
            Due.is("paid", x.load(day, 8), 10);
            Due.is("paid in all", x.paid(0), 10 * day + 10);
            Due.is("mean", x.about(9), 26);
        }
    }

    private static void paidInTheDayInWhichItIsOver() {
        Due.by("LOADS that came to be OVER in that DAY");
        for (int begin = 20; begin <= 22; begin++) {
            Mill x = mill(9, 20, 9, 10);
            x.field(0, 10, 0, 9, 0, 100);
            x.hours(begin);
            cut(x, 0, 1);
            x.hours(24 - begin);
            boolean inTime = begin + 3 <= 24;
            Due.is("over at 24", x.load(0, 7), inTime ? 1 : 0);
            Due.is("paid at 24", x.load(0, 8), inTime ? 10 : NOTHING);
            Due.is("mean at 24", x.about(9), inTime ? 9 : 0);
            x.hours(24);
            Due.is("paid at 48", x.load(0, 8), 10);
            Due.is("paid once", x.paid(0), 10);
            Due.is("mean at 48", x.about(9), inTime ? 0 : 9);
        }
    }

    private static void meanIsCut() {
        Due.by("MEAN: the sum of crushed tons by SWEET / the sum of these tons, cut");
        int[][] tonsAndMeans = {{1, 1, 15}, {1, 2, 16}, {2, 1, 13}, {19, 1, 10}, {20, 1, 10}, {1, 19, 19}, {1, 20, 19}};
        for (int[] due : tonsAndMeans) {
            Mill x = mill(9, 20, 9, 100);
            x.field(0, due[0], 0, 10, 1, 100);
            x.field(0, due[1], 0, 20, 1, 100);
            cut(x, 0, 1);
            cut(x, 1, 1);
            x.hours(24);
            Due.is("mean of " + due[0] + " and " + due[1], x.about(9), due[2]);
        }
        meanIsOfCrushedTonsAlone();
    }

    private static void meanIsOfCrushedTonsAlone() {
        Mill x = mill(9, 20, 9, 1);
        Due.is("text", Due.text(x, "1000*t+m"), true);
        x.field(0, 100, 0, 10, 1, 100);
        x.field(0, 100, 0, 30, 1, 100);
        x.fire(0);
        x.fire(1);
        cut(x, 0, 5);
        cut(x, 1, 1);
        x.hours(24);
        Due.is("the first one's tons", x.load(0, 5), 11);
        Due.is("the second one's tons", x.load(1, 5), 4);
        Due.is("mean", x.about(9), (11 * 8 + 4 * 28) / 15);
        Due.is("t is what was crushed", x.load(0, 8), 11013);
        Due.is("t is what was crushed", x.load(1, 8), 4013);
    }

    private static void meanIs0Without() {
        Due.by("MEAN: .. (0 without); 23: 9 MEAN of the latest DAY that was PAID (NONE)");
        Mill x = mill(9, 20, 9, 100);
        Due.is("text", Due.text(x, "t*1000+m*100+s"), true);
        x.field(0, 10, 0, 9, 0, 100);
        x.field(0, 10, 0, 9, 0, 100);
        x.hours(23);
        Due.is("none yet", x.about(9), NONE);
        x.hours(1);
        Due.is("a day without loads", x.about(9), 0);
        x.weather(true, 24, 60);
        cut(x, 0, 1);
        x.hours(47);
        Due.is("all of it is lost", x.about(8), 10);
        Due.is("a day of lost tons alone", x.about(9), 0);
        x.hours(1);
        Due.is("mean", x.about(9), 0);
        Due.is("a lost load is paid by the text, too", x.load(0, 8), 9);
        Due.is("to its farm", x.paid(0), 9);
        cut(x, 1, 1);
        x.hours(24);
        Due.is("a mean again", x.about(9), 9);
        x.hours(24);
        Due.is("and none again", x.about(9), 0);
    }

    private static void paidByTheLoadsOwnNumbers() {
        Due.by("what THE TEXT tells with t crushed tons, s SWEET, m MEAN, b BURNT (1, 0), h HOURS from CUT-AT");
        String[] texts = {"t", "s", "m", "b", "h"};
        int[][] due = {{10, 20}, {9, 17}, {14, 14}, {0, 1}, {4, 3}};
        for (int i = 0; i < texts.length; i++) {
            Mill x = mill(9, 20, 9, 10);
            x.farm();
            Due.is("text", Due.text(x, texts[i]), true);
            x.field(0, 10, 0, 9, 1, 100);
            x.field(1, 20, 0, 19, 1, 100);
            x.fire(1);
            x.cut(1, 1);
            cut(x, 0, 1);
            x.hours(24);
            Due.is(texts[i] + " of the first", x.load(0, 8), due[i][0]);
            Due.is(texts[i] + " of the second", x.load(1, 8), due[i][1]);
            Due.is(texts[i] + ", its farm", x.paid(0), due[i][0]);
            Due.is(texts[i] + ", its farm", x.paid(1), due[i][1]);
        }
        theTextOfTheHourOfPay();
    }

    private static void theTextOfTheHourOfPay() {
        Mill x = mill(9, 20, 9, 100);
        x.field(0, 10, 0, 9, 0, 100);
        cut(x, 0, 1);
        x.hours(23);
        Due.text(x, "0-9999*9999*9999");
        x.hours(1);
        Due.is("the text that stands as the day is paid", x.load(0, 8), -1000000000);
        Due.text(x, "7");
        x.hours(24);
        Due.is("once paid it stays", x.paid(0), -1000000000);
    }

    private static void paidOfOthers() {
        Due.by("22: What a FARM was PAID. 0 if there is none such");
        Mill x = mill(9, 20, 9, 100);
        Due.is("text", Due.text(x, "9999*9999*9999"), true);
        x.farm();
        for (int i = 0; i < 3; i++) {
            x.field(0, 10, 0, 9, 0, 100);
            x.fire(i);
            x.cut(i, 1);
        }
        Due.is("nothing yet", x.paid(0), 0);
        x.hours(24);
        Due.is("beyond what an int holds", x.paid(0), 3000000000L);
        Due.is("who had no load", x.paid(1), 0);
        for (int farms = 2; farms <= 10; farms++) {
            for (int wrong : new int[] {-1, farms, farms + 1, 10, 11, LEAST, MOST}) {
                Due.is("paid(" + wrong + ") of " + farms, x.paid(wrong), 0);
            }
            x.farm();
        }
        Due.is("the first one's still", x.paid(0), 3000000000L);
    }

    private static void theLastOf512Calls() {
        Due.by("An object is used for at most 512 calls after it has been made");
        Mill x = new Mill();
        while (x.callsLeft() > 1) {
            Due.is("clock", x.about(0), 0);
        }
        Due.is("the 512th", x.hours(100), 100);
    }

    private static void aboutOthers() {
        Due.by("23: NONE for others; 20 + i: the i-th FARM of THE ROUND's order");
        int[] others = {-1, -20, 11, 12, 13, 14, 15, 16, 17, 18, 19, 30, 31, 52, 1000, LEAST, LEAST + 20, MOST};
        for (int farms = 0; farms <= 10; farms++) {
            Mill x = new Mill();
            for (int i = 0; i < farms; i++) {
                x.farm();
            }
            Due.is("no order ahead of a round", x.about(20), NONE);
            x.round(7);
            for (int i = 0; i < 10; i++) {
                Due.is("a place of the order, " + i + " of " + farms, x.about(20 + i) != NONE, i < farms);
            }
            for (int wrong : others) {
                Due.is("about(" + wrong + ")", x.about(wrong), NONE);
            }
        }
    }
}
