/** The edges of cuts and fires (part II of the terms, promises 8, 9 and 17): a method for each sentence that names one. */
public final class CutsEdgesTest {
    private static final int NONE = CaneRounds.NONE;
    private static final int LEAST = Integer.MIN_VALUE;
    private static final int MOST = Integer.MAX_VALUE;
    private static final int[] NO_FIELDS = {-1, 6, 15, 16, LEAST, MOST};

    private static final int STANDS = 0;
    private static final int NOT_IN_TURN = 1;
    private static final int IS_CUT = 2;
    private static final int IS_GONE = 3;
    private static final int BEING_CUT = 4;
    private static final int BURNT = 5;

    public static void main(String[] args) {
        cutOfNoField();
        cutWithItsGangs();
        cutWithNineGangs();
        cutOfWhatIsCutOrGone();
        cutInTurn();
        cutOfBurntFields();
        burntFieldsTakeTheTurnOnlyInTurn();
        gangsAreFreeAtTheEndOfTheHour();
        fireOfNoField();
        fireOfBurntGoneOrCutFields();
        fireAtTheClocksHour();
        burntSweetIs0AtLeast();
        goneBehindTheTwelfthHour();
        aCutInTheTwelfthHourSaves();
        fireAtTheLastHour();
        fieldOfOthers();
        fieldOfEachState();
        Due.finish();
    }

    /** It is farm 0's turn, two gangs are free, and there is a field of each kind, by the constants' names. */
    private static void midst(Mill x) {
        x.farm();
        x.farm();
        x.rules(3, 5, 2, 9);
        x.field(0, 200, 13, 20, 40, 3);
        x.field(1, 200, 27, 20, 40, 3);
        x.field(0, 20, 0, 20, 40, 3);
        x.field(1, 20, 0, 20, 40, 3);
        x.field(0, 150, 0, 20, 40, 3);
        x.field(1, 30, 0, 20, 40, 3);
        x.fire(IS_GONE);
        x.round(0);
        x.cut(IS_CUT, 2);
        x.hours(12);
        x.round(0);
        x.cut(BEING_CUT, 1);
        x.round(0);
        x.fire(BURNT);
    }

    private static Mill inMidst() {
        Mill x = new Mill();
        midst(x);
        return x;
    }

    private static void cutIsRefused(int field, int gangs) {
        Refusal.isFalse("cut(" + field + ", " + gangs + ")", CutsEdgesTest::midst, x -> x.cut(field, gangs));
    }

    private static void cutOfNoField() {
        Due.by("8: False: no such FIELD");
        for (int field : NO_FIELDS) {
            cutIsRefused(field, 1);
        }
        Due.is("the first field", inMidst().cut(STANDS, 1), true);
        Due.is("the last field", inMidst().cut(BURNT, 1), true);
    }

    private static void cutWithItsGangs() {
        Due.by("8: False: not so many gangs (1 .. 9) are free");
        Due.is("free gangs", inMidst().about(4), 2);
        for (int gangs : new int[] {0, 3, 4, 9, 10, -1, LEAST, MOST}) {
            cutIsRefused(STANDS, gangs);
            cutIsRefused(BURNT, gangs);
        }
        Mill one = inMidst();
        Due.is("one", one.cut(STANDS, 1), true);
        Due.is("one is left", one.about(4), 1);
        Due.is("two of one", one.cut(BURNT, 2), false);
        Due.is("the last one", one.cut(BURNT, 1), true);
        Due.is("none is left", one.about(4), 0);
        Mill all = inMidst();
        Due.is("all that are free", all.cut(STANDS, 2), true);
        Due.is("none is left", all.about(4), 0);
        Due.is("one of none", all.cut(BURNT, 1), false);
    }

    private static void cutWithNineGangs() {
        Due.by("8: gangs (1 .. 9)");
        Mill x = new Mill();
        x.rules(9, 20, 1, 1);
        x.farm();
        x.field(0, 200, 0, 1, 0, 1);
        x.round(0);
        Due.is("ten", x.cut(0, 10), false);
        Due.is("nine", x.cut(0, 9), true);
        Due.is("gangs at it", x.fieldOf(0, 5), 9);
        Due.is("free", x.about(4), 0);
    }

    private static void cutOfWhatIsCutOrGone() {
        Due.by("A CUT begins .. of a FIELD that isn't cut nor GONE");
        cutIsRefused(IS_CUT, 1);
        cutIsRefused(IS_GONE, 1);
        cutIsRefused(BEING_CUT, 1);
        Mill x = inMidst();
        x.cut(BURNT, 1);
        Due.is("a burnt field that is being cut", x.cut(BURNT, 1), false);
        x.hours(6);
        Due.is("is cut", x.fieldOf(BURNT, 2), 2);
        Due.is("a burnt field that is cut", x.cut(BURNT, 1), false);
    }

    private static void cutInTurn() {
        Due.by("A CUT begins .. if it is its FARM's TURN (that has cut then)");
        cutIsRefused(NOT_IN_TURN, 1);
        Mill x = inMidst();
        Due.is("turn", x.about(6), 0);
        Due.is("in turn", x.cut(STANDS, 1), true);
        Due.is("turn", x.about(6), 1);
        Due.is("the next in turn", x.cut(NOT_IN_TURN, 1), true);
        Due.is("turn", x.about(6), NONE);
        Mill y = new Mill();
        y.farm();
        y.field(0, 20, 0, 9, 0, 9);
        Due.is("without a round", y.cut(0, 1), false);
        y.round(0);
        y.pass();
        Due.is("behind a pass", y.cut(0, 1), false);
        y.round(0);
        Due.is("in a new round", y.cut(0, 1), true);
    }

    private static void cutOfBurntFields() {
        Due.by("A CUT begins .. or the FIELD is BURNT");
        Mill x = new Mill();
        x.farm();
        for (int i = 0; i < 4; i++) {
            x.field(0, 20, 0, 9, 0, 9);
        }
        Due.is("without a round, not burnt", x.cut(0, 1), false);
        x.fire(0);
        Due.is("without a round, burnt", x.cut(0, 1), true);
        x.round(0);
        x.pass();
        Due.is("behind a pass, not burnt", x.cut(1, 1), false);
        x.fire(1);
        Due.is("behind a pass, burnt", x.cut(1, 1), true);
        Due.is("another's fire is none of it", x.cut(2, 1), false);
    }

    private static void burntFieldsTakeTheTurnOnlyInTurn() {
        Due.by("if it is its FARM's TURN (that has cut then), or the FIELD is BURNT");
        Mill x = inMidst();
        Due.is("farm 1's burnt field in farm 0's turn", x.cut(BURNT, 1), true);
        Due.is("turn", x.about(6), 0);
        Due.is("farm 0 cuts", x.cut(STANDS, 1), true);
        Due.is("farm 1 still has its turn", x.about(6), 1);
        Mill y = inMidst();
        Due.is("farm 0 passes", y.pass(), 1);
        Due.is("farm 1's burnt field in its turn", y.cut(BURNT, 1), true);
        Due.is("it has cut then", y.about(6), NONE);
    }

    private static void gangsAreFreeAtTheEndOfTheHour() {
        Due.by("as all TONS are cut its gangs are free (at the end of this HOUR)");
        for (int tons = 10; tons <= 21; tons++) {
            Mill x = new Mill();
            x.farm();
            x.field(0, tons, 0, 9, 0, 9);
            x.round(0);
            x.cut(0, 2);
            int hours = tons == 10 ? 1 : tons <= 20 ? 2 : 3;
            for (int i = 1; i <= hours; i++) {
                Due.is("free ahead of the end", x.about(4), 1);
                Due.is("gangs at it", x.fieldOf(0, 5), 2);
                Due.is("no load", x.about(3), 0);
                x.hours(1);
                Due.is("tons cut", x.fieldOf(0, 3), Math.min(tons, 10 * i));
            }
            Due.is("free at the end of " + tons, x.about(4), 3);
            Due.is("gangs at it", x.fieldOf(0, 5), 0);
            Due.is("state", x.fieldOf(0, 2), 2);
            Due.is("a load", x.about(3), 1);
            Due.is("cut-at", x.load(0, 1), hours);
        }
    }

    private static void fireIsRefused(int field) {
        Refusal.isFalse("fire(" + field + ")", CutsEdgesTest::midst, x -> x.fire(field));
    }

    private static void fireOfNoField() {
        Due.by("9: False: no such FIELD");
        for (int field : NO_FIELDS) {
            fireIsRefused(field);
        }
        Due.is("the first field", inMidst().fire(STANDS), true);
        Due.is("out of turn", inMidst().fire(NOT_IN_TURN), true);
    }

    private static void fireOfBurntGoneOrCutFields() {
        Due.by("9: False: .. it is BURNT, GONE, or a CUT of it has begun");
        fireIsRefused(BURNT);
        fireIsRefused(IS_GONE);
        fireIsRefused(BEING_CUT);
        fireIsRefused(IS_CUT);
        Mill x = inMidst();
        x.cut(STANDS, 1);
        Due.is("a cut has begun in this hour", x.fire(STANDS), false);
        Due.is("it is not burnt", x.fieldOf(STANDS, 4), 0);
    }

    private static void fireAtTheClocksHour() {
        Due.by("SWEET is what it was at that HOUR, less 2");
        Mill x = new Mill();
        x.farm();
        x.field(0, 10, 0, 20, 10, 1);
        x.field(0, 10, 0, 20, 10, 1);
        x.hours(7);
        Due.is("as it was", x.sweet(0, 7), 17);
        x.fire(0);
        for (int hour : new int[] {0, 6, 7, 8, 10, 4000}) {
            Due.is("burnt, at hour " + hour, x.sweet(0, hour), 15);
        }
        Due.is("another one, at its best", x.sweet(1, 10), 20);
        x.hours(3);
        Due.is("later", x.sweet(0, 10), 15);
        x.cut(0, 1);
        x.hours(2);
        Due.is("of the load", x.load(0, 2), 15);
    }

    private static void burntSweetIs0AtLeast() {
        Due.by("SWEET .. less 2, 0 at least");
        for (int top = 1; top <= 4; top++) {
            Mill x = new Mill();
            x.farm();
            x.field(0, 10, 0, top, 0, 1);
            x.fire(0);
            Due.is("burnt, of " + top, x.sweet(0, 0), top <= 2 ? 0 : top - 2);
            x.cut(0, 3);
            x.hours(1);
            Due.is("its load, of " + top, x.load(0, 2), top <= 2 ? 0 : top - 2);
        }
        Mill y = new Mill();
        y.farm();
        y.field(0, 10, 0, 5, 100, 10);
        y.fire(0);
        Due.is("of 0", y.sweet(0, 100), 0);
    }

    private static void goneBehindTheTwelfthHour() {
        Due.by("if no CUT of it has begun at the end of the 12th HOUR (that of the FIRE the first) it is GONE");
        for (int from : new int[] {0, 1, 12, 23}) {
            Mill x = new Mill();
            x.farm();
            x.field(0, 10, 0, 20, 0, 9);
            x.field(0, 10, 0, 20, 0, 9);
            if (from > 0) {
                x.hours(from);
            }
            x.fire(0);
            for (int hour = 1; hour <= 11; hour++) {
                x.hours(1);
                Due.is("stands behind hour " + hour, x.fieldOf(0, 2), 0);
            }
            x.hours(1);
            Due.is("gone behind the 12th", x.fieldOf(0, 2), 3);
            Due.is("burnt", x.fieldOf(0, 4), 1);
            Due.is("no cut", x.cut(0, 1), false);
            Due.is("no fire", x.fire(0), false);
            Due.is("what never burnt stands", x.fieldOf(1, 2), 0);
            x.hours(12);
            Due.is("gone for ever", x.fieldOf(0, 2), 3);
            Due.is("no load", x.about(3), 0);
        }
    }

    private static void aCutInTheTwelfthHourSaves() {
        Due.by("if no CUT of it has begun at the end of the 12th HOUR");
        Mill x = new Mill();
        x.farm();
        x.field(0, 10, 0, 20, 0, 9);
        x.fire(0);
        x.weather(false, 11, 14);
        x.hours(11);
        Due.is("cut in the 12th", x.cut(0, 1), true);
        x.hours(1);
        Due.is("it has begun, though it rains", x.fieldOf(0, 2), 1);
        Due.is("no ton is cut", x.fieldOf(0, 3), 0);
        x.hours(4);
        Due.is("it is cut", x.fieldOf(0, 2), 2);
        Due.is("dies 12 behind", x.load(0, 3), 28);
    }

    private static void fireAtTheLastHour() {
        Due.by("9: A FIRE at the clock's HOUR");
        Mill x = new Mill();
        x.farm();
        x.field(0, 10, 0, 20, 3990, 1);
        x.field(0, 10, 0, 20, 3990, 1);
        for (int i = 0; i < 40; i++) {
            x.hours(i == 39 ? 88 : 100);
        }
        x.fire(0);
        x.hours(11);
        Due.is("stands in its 12th hour", x.fieldOf(0, 2), 0);
        x.hours(1);
        Due.is("gone at hour 4000", x.fieldOf(0, 2), 3);
        Due.is("fire at hour 4000", x.fire(1), true);
        Due.is("sweet", x.sweet(1, 0), 8);
    }

    private static void fieldOfOthers() {
        Due.by("17: NONE for others");
        Mill x = inMidst();
        for (int what = 0; what <= 6; what++) {
            for (int field : NO_FIELDS) {
                Due.is("fieldOf(" + field + ", " + what + ")", x.fieldOf(field, what), NONE);
            }
        }
        for (int field = 0; field < 6; field++) {
            for (int what : new int[] {-1, 7, 8, LEAST, MOST}) {
                Due.is("fieldOf(" + field + ", " + what + ")", x.fieldOf(field, what), NONE);
            }
        }
    }

    private static void fieldIs(Mill x, int field, int... due) {
        for (int what = 0; what < due.length; what++) {
            Due.is("fieldOf(" + field + ", " + what + ")", x.fieldOf(field, what), due[what]);
        }
    }

    private static void fieldOfEachState() {
        Due.by("17: 0 FARM, 1 TONS, 2 its state, 3 tons cut, 4 BURNT, 5 gangs at it, 6 its LOAD (NONE)");
        Mill x = inMidst();
        fieldIs(x, STANDS, 0, 200, 0, 0, 0, 0, NONE);
        fieldIs(x, NOT_IN_TURN, 1, 200, 0, 0, 0, 0, NONE);
        fieldIs(x, IS_CUT, 0, 20, 2, 20, 0, 0, 0);
        fieldIs(x, IS_GONE, 1, 20, 3, 0, 1, 0, NONE);
        fieldIs(x, BEING_CUT, 0, 150, 1, 0, 0, 1, NONE);
        fieldIs(x, BURNT, 1, 30, 0, 0, 1, 0, NONE);
        x.cut(BURNT, 2);
        fieldIs(x, BURNT, 1, 30, 1, 0, 1, 2, NONE);
        x.hours(2);
        fieldIs(x, BURNT, 1, 30, 1, 20, 1, 2, NONE);
        fieldIs(x, BEING_CUT, 0, 150, 1, 10, 0, 1, NONE);
        x.hours(1);
        fieldIs(x, BURNT, 1, 30, 2, 30, 1, 0, 1);
    }
}
