/** One method a promise: ordinary inputs, the edges that the document names, and wrong inputs. */
public final class PromisesTest {
    private static final int NONE = CaneRounds.NONE;
    private static final int NOTHING = -2000000000;

    public static void main(String[] args) {
        promise1New();
        promise2Rules();
        promise3Farm();
        promise4Field();
        promise5Weather();
        promise6Round();
        promise7Pass();
        promise8Cut();
        promise8CutOfBurntFields();
        promise9Fire();
        promise10Hours();
        promise10Trucks();
        promise10MillCrushesFirstWhatDiesFirst();
        promise11Feed();
        promise12End();
        promise13Text();
        promise14Fault();
        promise15Tells();
        promise16Sweet();
        promise17FieldOf();
        promise18Load();
        promise19Bundle();
        promise20And21Best();
        promise22Paid();
        promise23About();
        Due.finish();
    }

    private static Mill withFarms(int farms) {
        Mill x = new Mill();
        for (int i = 0; i < farms; i++) {
            Due.is("farm()", x.farm(), i);
        }
        return x;
    }

    /** A mill with one farm whose turn it is each time a field is cut. */
    private static void cutInNewRound(Mill x, int field, int gangs) {
        x.round(0);
        Due.is("cut(" + field + ", " + gangs + ")", x.cut(field, gangs), true);
    }

    private static void promise1New() {
        Mill x = new Mill();
        int[] due = {0, 0, 0, 0, 3, 3, NONE, 0, 0, NONE, 0};
        for (int what = 0; what < due.length; what++) {
            Due.is("new: about(" + what + ")", x.about(what), due[what]);
        }
        Due.is("new: about(20)", x.about(20), NONE);
        Due.is("new: fieldOf(0, 0)", x.fieldOf(0, 0), NONE);
        Due.is("new: load(0, 0)", x.load(0, 0), NONE);
        Due.is("new: bundle(0)", x.bundle(0), NONE);
        Due.is("new: pass()", x.pass(), NONE);
        Due.is("new: fault(0)", x.fault(0), NONE);
        Due.is("new: fault(1)", x.fault(1), NONE);
        Due.is("new: tells", x.tells(1000000, 9, 9, 9, 9), 1000000);
    }

    private static void promise2Rules() {
        Mill x = withFarms(1);
        int[] least = {1, 1, 1, 1};
        int[] most = {9, 20, 9, 100};
        for (int i = 0; i < 4; i++) {
            int[] r = {2, 7, 4, 30};
            Due.is("rules", x.rules(r[0], r[1], r[2], r[3]), true);
            r[i] = least[i] - 1;
            Due.is("rules too small at " + i, x.rules(r[0], r[1], r[2], r[3]), false);
            r[i] = most[i] + 1;
            Due.is("rules too large at " + i, x.rules(r[0], r[1], r[2], r[3]), false);
            Due.is("gangs stay", x.about(4), 2);
            Due.is("trucks stay", x.about(5), 4);
        }
        Due.is("rules least", x.rules(1, 1, 1, 1), true);
        Due.is("gangs", x.about(4), 1);
        Due.is("trucks", x.about(5), 1);
        Due.is("rules most", x.rules(9, 20, 9, 100), true);
        Due.is("gangs", x.about(4), 9);
        Due.is("trucks", x.about(5), 9);
        x.field(0, 200, 0, 10, 0, 100);
        cutInNewRound(x, 0, 1);
        x.hours(1);
        Due.is("rate", x.fieldOf(0, 3), 20);
        Due.is("rules when an hour has gone by", x.rules(1, 1, 1, 1), false);
        Due.is("gangs stay", x.about(4), 8);
        x.hours(1);
        Due.is("rate stays", x.fieldOf(0, 3), 40);
    }

    private static void promise3Farm() {
        Mill x = withFarms(10);
        Due.is("11th farm", x.farm(), NONE);
        Due.is("farms", x.about(1), 10);
        Due.is("field of the last farm", x.field(9, 1, 0, 1, 0, 1), 0);
        Due.is("field of no farm", x.field(10, 1, 0, 1, 0, 1), NONE);
    }

    private static void promise4Field() {
        Mill x = withFarms(2);
        int[] plain = {1, 20, 10, 10, 100, 10};
        int[] least = {0, 1, 0, 1, 0, 1};
        int[] most = {1, 200, 60, 30, 4000, 100};
        for (int i = 0; i < plain.length; i++) {
            int[] f = plain.clone();
            f[i] = least[i] - 1;
            Due.is("field too small at " + i, x.field(f[0], f[1], f[2], f[3], f[4], f[5]), NONE);
            f[i] = most[i] + 1;
            Due.is("field too large at " + i, x.field(f[0], f[1], f[2], f[3], f[4], f[5]), NONE);
        }
        Due.is("fields", x.about(2), 0);
        Due.is("least field", x.field(0, 1, 0, 1, 0, 1), 0);
        Due.is("most field", x.field(1, 200, 60, 30, 4000, 100), 1);
        for (int i = 2; i < 16; i++) {
            Due.is("field", x.field(1, 20, 10, 10, 100, 10), i);
        }
        Due.is("17th field", x.field(1, 20, 10, 10, 100, 10), NONE);
        Due.is("fields", x.about(2), 16);
    }

    private static void promise5Weather() {
        Mill x = withFarms(1);
        Due.is("from below 0", x.weather(false, -1, 5), false);
        Due.is("empty", x.weather(false, 5, 5), false);
        Due.is("backwards", x.weather(true, 5, 4), false);
        Due.is("to beyond", x.weather(true, 5, 4001), false);
        Due.is("to the last", x.weather(true, 3999, 4000), true);
        x.hours(10);
        Due.is("ahead of the clock", x.weather(false, 9, 12), false);
        Due.is("at the clock", x.weather(false, 10, 12), true);
        x.field(0, 20, 0, 10, 0, 100);
        cutInNewRound(x, 0, 1);
        x.hours(2);
        Due.is("rain in both hours", x.fieldOf(0, 3), 0);
        x.hours(1);
        Due.is("no rain in the hour told last", x.fieldOf(0, 3), 5);
        for (int i = 2; i < 20; i++) {
            Due.is("weather " + i, x.weather(i % 2 == 0, 1000, 1001), true);
        }
        Due.is("21st, rain", x.weather(false, 1000, 1001), false);
        Due.is("21st, stop", x.weather(true, 1000, 1001), false);
        rainLetsTheMillCrush();
    }

    private static void rainLetsTheMillCrush() {
        Mill x = withFarms(1);
        x.field(0, 40, 0, 10, 0, 100);
        cutInNewRound(x, 0, 3);
        x.hours(3);
        Due.is("at the mill", x.load(0, 4), 4);
        x.weather(false, 3, 6);
        x.weather(true, 4, 5);
        x.hours(2);
        Due.is("the mill stops", x.about(7), 0);
        x.hours(1);
        Due.is("the mill crushes in the rain", x.about(7), 20);
    }

    private static void promise6Round() {
        Due.is("round without farms", new Mill().round(7), NONE);
        int[] seeds = {0, 1, -1, 12345, Integer.MIN_VALUE, Integer.MAX_VALUE};
        for (int farms = 1; farms <= 10; farms++) {
            for (int seed : seeds) {
                Mill x = withFarms(farms);
                int[] order = lot(farms, seed);
                Due.is("round(" + seed + ")", x.round(seed), order[0]);
                for (int i = 0; i < farms; i++) {
                    Due.is("order " + i, x.about(20 + i), order[i]);
                }
                Due.is("behind the order", x.about(20 + farms), NONE);
            }
        }
        Mill x = withFarms(2);
        x.round(5);
        x.farm();
        Due.is("a later farm is not in the order", x.about(22), NONE);
        x.pass();
        Due.is("a later farm has no turn", x.pass(), NONE);
        Due.is("a new round begins", x.round(5), lot(3, 5)[0]);
        Due.is("with the later farm", x.about(22), lot(3, 5)[2]);
        x.pass();
        Due.is("a round ends the one that goes on", x.round(5), lot(3, 5)[0]);
    }

    private static int[] lot(int farms, int seed) {
        java.util.List<Integer> row = new java.util.ArrayList<>();
        for (int i = 0; i < farms; i++) {
            row.add(i);
        }
        long s = seed & 0xffffffffL;
        for (int i = 0; i + 2 <= farms; i++) {
            s = (s * 1103515245L + 12345L) & 0xffffffffL;
            java.util.Collections.swap(row, i, i + (int) ((s >> 16) % (farms - i)));
        }
        int[] order = new int[farms];
        for (int i = 0; i < farms; i++) {
            order[i] = row.get(i);
        }
        return order;
    }

    private static void promise7Pass() {
        Mill x = withFarms(3);
        Due.is("pass without a round", x.pass(), NONE);
        int[] order = lot(3, 99);
        x.round(99);
        Due.is("first pass", x.pass(), order[1]);
        Due.is("turn", x.about(6), order[1]);
        Due.is("second pass", x.pass(), order[2]);
        Due.is("third pass", x.pass(), NONE);
        Due.is("turn", x.about(6), NONE);
        Due.is("nobody's", x.pass(), NONE);
        x.field(order[0], 10, 0, 10, 0, 1);
        Due.is("who passed can't cut", x.cut(0, 1), false);
    }

    private static void promise8Cut() {
        Mill x = withFarms(2);
        int[] order = lot(2, 3);
        x.field(order[0], 20, 0, 10, 0, 1);
        x.field(order[1], 20, 0, 10, 0, 1);
        x.field(order[0], 20, 0, 10, 0, 1);
        Due.is("no round", x.cut(0, 1), false);
        x.round(3);
        Due.is("no field", x.cut(3, 1), false);
        Due.is("no field", x.cut(-1, 1), false);
        Due.is("no gang", x.cut(0, 0), false);
        Due.is("below", x.cut(0, -1), false);
        Due.is("too many", x.cut(0, 4), false);
        Due.is("far too many", x.cut(0, 10), false);
        Due.is("not its turn", x.cut(1, 1), false);
        Due.is("turn", x.about(6), order[0]);
        Due.is("cut", x.cut(0, 2), true);
        Due.is("turn", x.about(6), order[1]);
        Due.is("free gangs", x.about(4), 1);
        Due.is("each farm cuts once", x.cut(2, 1), false);
        Due.is("gangs that aren't free", x.cut(1, 2), false);
        Due.is("the last gang", x.cut(1, 1), true);
        Due.is("turn", x.about(6), NONE);
        x.round(3);
        Due.is("being cut", x.cut(0, 1), false);
        x.hours(2);
        Due.is("is cut", x.fieldOf(0, 2), 2);
        Due.is("gangs are free behind the last hour", x.about(4), 2);
        Due.is("cut already", x.cut(0, 1), false);
        Due.is("another field of it", x.cut(2, 1), true);
    }

    private static void promise8CutOfBurntFields() {
        Mill x = withFarms(2);
        int[] order = lot(2, 3);
        x.field(order[1], 20, 0, 10, 0, 1);
        x.field(order[1], 20, 0, 10, 0, 1);
        x.field(order[0], 20, 0, 10, 0, 1);
        x.fire(0);
        x.round(3);
        Due.is("burnt, out of turn", x.cut(0, 1), true);
        Due.is("turn stays", x.about(6), order[0]);
        Due.is("burnt, being cut", x.cut(0, 1), false);
        x.fire(2);
        Due.is("burnt, in turn", x.cut(2, 1), true);
        Due.is("turn goes on", x.about(6), order[1]);
        Due.is("its turn is still there", x.cut(1, 1), true);
        Due.is("turn", x.about(6), NONE);
        Mill y = withFarms(1);
        y.field(0, 20, 0, 10, 0, 1);
        y.fire(0);
        Due.is("burnt, too many gangs", y.cut(0, 4), false);
        Due.is("burnt, without a round", y.cut(0, 3), true);
    }

    private static void promise9Fire() {
        Mill x = withFarms(1);
        x.field(0, 10, 0, 10, 5, 1);
        x.field(0, 10, 0, 1, 5, 100);
        x.field(0, 10, 0, 10, 5, 1);
        x.field(0, 10, 0, 10, 5, 1);
        Due.is("no field", x.fire(4), false);
        Due.is("no field", x.fire(-1), false);
        x.hours(3);
        Due.is("fire", x.fire(0), true);
        Due.is("burnt", x.fieldOf(0, 4), 1);
        Due.is("sweet as it was, less 2", x.sweet(0, 5), 6);
        Due.is("burnt already", x.fire(0), false);
        Due.is("fire", x.fire(1), true);
        Due.is("0 at least", x.sweet(1, 5), 0);
        cutInNewRound(x, 2, 1);
        Due.is("a cut has begun", x.fire(2), false);
        x.hours(11);
        Due.is("stands in the 12th hour", x.fieldOf(0, 2), 0);
        Due.is("cut in the 12th hour", x.cut(0, 1), true);
        Due.is("is cut", x.fire(2), false);
        x.hours(1);
        Due.is("goes on", x.fieldOf(0, 2), 1);
        Due.is("is gone at the end of the 12th", x.fieldOf(1, 2), 3);
        Due.is("gone: fire", x.fire(1), false);
        Due.is("gone: cut", x.cut(1, 1), false);
        Due.is("gone: burnt", x.fieldOf(1, 4), 1);
        Due.is("not burnt: it stands", x.fieldOf(3, 2), 0);
        Due.is("fire at the clock's hour", x.fire(3), true);
        Due.is("sweet", x.sweet(3, 0), 0);
    }

    private static void promise10Hours() {
        Mill x = new Mill();
        Due.is("hours(0)", x.hours(0), NONE);
        Due.is("hours(-1)", x.hours(-1), NONE);
        Due.is("hours(101)", x.hours(101), NONE);
        Due.is("hours(MIN)", x.hours(Integer.MIN_VALUE), NONE);
        Due.is("hours(MAX)", x.hours(Integer.MAX_VALUE), NONE);
        Due.is("clock", x.about(0), 0);
        for (int i = 1; i < 40; i++) {
            Due.is("hours(100)", x.hours(100), 100 * i);
        }
        Due.is("hours(99)", x.hours(99), 3999);
        Due.is("beyond", x.hours(2), NONE);
        Due.is("clock", x.about(0), 3999);
        Due.is("the last", x.hours(1), 4000);
        Due.is("beyond", x.hours(1), NONE);
        Due.is("no weather there", x.weather(true, 4000, 4001), false);
    }

    private static void promise10Trucks() {
        Mill x = withFarms(1);
        x.rules(9, 20, 1, 100);
        x.field(0, 20, 60, 10, 0, 100);
        x.field(0, 20, 10, 10, 0, 100);
        x.field(0, 20, 11, 10, 0, 100);
        x.field(0, 20, 0, 10, 0, 100);
        for (int i = 0; i < 4; i++) {
            cutInNewRound(x, i, 1);
        }
        x.hours(1);
        Due.is("loads", x.about(3), 4);
        Due.is("six hours away", x.load(0, 4), 7);
        Due.is("no truck yet", x.load(1, 4), NONE);
        Due.is("none is free", x.about(5), 0);
        x.hours(11);
        Due.is("none is free at 12", x.about(5), 0);
        x.hours(1);
        Due.is("free at 13", x.about(5), 1);
        Due.is("no truck yet at 13", x.load(1, 4), NONE);
        x.hours(1);
        Due.is("left at 14", x.load(1, 4), 15);
        x.hours(2);
        Due.is("free at 16", x.about(5), 1);
        x.hours(1);
        Due.is("left at 17, eleven km", x.load(2, 4), 19);
        x.hours(5);
        Due.is("left at 22", x.load(3, 4), 23);
        x.hours(2);
        Due.is("crushed in its first hour at the mill", x.load(3, 5), 20);
        aLostLoadTakesNoTruck();
    }

    private static void aLostLoadTakesNoTruck() {
        Mill x = withFarms(1);
        x.rules(9, 20, 1, 100);
        for (int i = 0; i < 3; i++) {
            x.field(0, 20, 60, 10, 0, 100);
            cutInNewRound(x, i, 1);
        }
        x.hours(24);
        Due.is("not yet lost", x.load(2, 6), 0);
        x.hours(1);
        Due.is("lost as it waits", x.load(2, 6), 20);
        Due.is("over", x.load(2, 7), 1);
        x.hours(10);
        Due.is("no truck", x.load(2, 4), NONE);
        Due.is("truck free", x.about(5), 1);
    }

    private static void promise10MillCrushesFirstWhatDiesFirst() {
        Mill x = withFarms(1);
        x.rules(9, 20, 9, 10);
        x.field(0, 20, 30, 10, 0, 100);
        x.field(0, 20, 30, 10, 0, 100);
        x.field(0, 20, 30, 10, 0, 100);
        cutInNewRound(x, 1, 1);
        cutInNewRound(x, 0, 1);
        x.fire(2);
        x.hours(1);
        Due.is("the lower field's load is the lower", x.load(0, 0), 0);
        Due.is("the higher field's", x.load(1, 0), 1);
        cutInNewRound(x, 2, 1);
        x.hours(1);
        Due.is("dies", x.load(0, 3), 25);
        Due.is("dies when burnt", x.load(2, 3), 14);
        Due.is("at the mill", x.load(0, 4), 4);
        Due.is("at the mill", x.load(2, 4), 5);
        x.hours(3);
        Due.is("of like ones the lowest", x.load(0, 5), 10);
        x.hours(2);
        Due.is("what dies first", x.load(2, 5), 20);
        Due.is("the others wait", x.load(0, 5), 10);
        x.hours(2);
        Due.is("then the lowest", x.load(0, 5), 20);
        Due.is("then the next", x.load(1, 5), 10);
        partLost();
    }

    private static void partLost() {
        Mill x = withFarms(1);
        x.rules(9, 20, 9, 3);
        x.field(0, 100, 0, 10, 0, 100);
        cutInNewRound(x, 0, 5);
        x.hours(24);
        Due.is("crushed to 24", x.load(0, 5), 66);
        Due.is("not lost", x.load(0, 6), 0);
        x.hours(1);
        Due.is("the mill goes ahead of the loss", x.load(0, 5), 69);
        Due.is("the rest is lost", x.load(0, 6), 31);
        Due.is("tons lost", x.about(8), 31);
        Due.is("tons crushed", x.about(7), 69);
    }

    private static void promise11Feed() {
        Mill x = new Mill();
        for (int i = 1; i <= 5; i++) {
            Due.is("feed", x.feed(0x20202020, 0x20202020, 0x20202020, 0x20202020, 0x20202020), 20 * i);
        }
        Due.is("a sixth", x.feed(0, 0, 0, 0, 0), NONE);
        Due.is("bytes", x.about(10), 100);
        x.end(81);
        Due.is("81 and 20", x.feed(0, 0, 0, 0, 0), NONE);
        Due.is("bytes", x.about(10), 81);
        x.end(80);
        Due.is("80 and 20", x.feed(0x20202020, 0x20202020, 0x20202020, 0x20202020, 0x20202074), 100);
        Due.is("the last byte is e's lowest", x.text(), true);
        x.feed(0x31323334, 0x20202020, 0x20202020, 0x20202020, 0x20202020);
        Due.is("text", x.text(), true);
        Due.is("the highest of a first", x.tells(0, 0, 0, 0, 0), 1234);
        x.feed(0x20202020, 0x2b313030, 0xff202020, 0x20202020, 0x20202020);
        x.text();
        Due.is("+ can't stand first", x.fault(1), 4);
        x.feed(0x20202020, 0x2d313030, 0xff202020, 0x20202020, 0x20202020);
        x.text();
        Due.is("byte 255", x.fault(1), 8);
    }

    private static void promise12End() {
        Mill x = new Mill();
        Due.is("end(1)", x.end(1), NONE);
        Due.is("end(0)", x.end(0), 0);
        x.feed(0x74747474, 0, 0, 0, 0);
        Due.is("end(21)", x.end(21), NONE);
        Due.is("end(-1)", x.end(-1), NONE);
        Due.is("bytes", x.about(10), 20);
        Due.is("end(20)", x.end(20), 20);
        Due.is("end(1)", x.end(1), 1);
        Due.is("bytes", x.about(10), 1);
        Due.is("end(2)", x.end(2), NONE);
        Due.is("text", x.text(), true);
    }

    private static void promise13Text() {
        Mill x = new Mill();
        Due.is("text", Due.text(x, "s+h"), true);
        Due.is("the tape is empty", x.about(10), 0);
        Due.is("tells", x.tells(1, 20, 300, 4000, 50000), 50020);
        Due.is("a fault", Due.text(x, "t+"), false);
        Due.is("the tape is empty", x.about(10), 0);
        Due.is("the former stays", x.tells(1, 20, 300, 4000, 50000), 50020);
        Due.is("an empty tape", x.text(), false);
        Due.is("the former stays", x.tells(1, 20, 300, 4000, 50000), 50020);
        Due.is("text", Due.text(x, "t"), true);
        Due.is("the new one", x.tells(1, 20, 300, 4000, 50000), 1);
        Due.is("a hundred tokens", Due.text(x, "-t" + "+t".repeat(49)), true);
        Due.is("tells", x.tells(3, 0, 0, 0, 0), 144);
        Due.is("a hundred tokens, one wanting", Due.text(x, "t+".repeat(50)), false);
        Due.is("at the end", x.fault(1), 100);
        Due.is("the last token too many", Due.text(x, "t+".repeat(49) + "t)"), false);
        Due.is("at the last", x.fault(1), 99);
    }

    private static void faultOf(String text, int fault, int place) {
        Mill x = new Mill();
        Due.is("text " + text, Due.text(x, text), fault == 0);
        Due.is("fault of " + text, x.fault(0), fault);
        Due.is("place of " + text, x.fault(1), place);
        Due.is("fault(2)", x.fault(2), NONE);
        Due.is("fault(-1)", x.fault(-1), NONE);
    }

    private static void promise14Fault() {
        faultOf("t", 0, NONE);
        faultOf("", 1, 0);
        faultOf("   ", 1, 3);
        faultOf("t +  ", 1, 5);
        faultOf(" tt", 1, 1);
        faultOf("T", 1, 0);
        faultOf("t+sT", 1, 2);
        faultOf("x", 1, 0);
        faultOf("minn(t,t)", 1, 0);
        faultOf("mi(t,t)", 1, 0);
        faultOf("mix(t,t)", 1, 0);
        faultOf("t min(t,t)", 1, 2);
        faultOf("min", 1, 3);
        faultOf("min (t , s)", 0, NONE);
        faultOf("min(t)", 1, 5);
        faultOf("max(t,s,m)", 1, 7);
        faultOf("max(t,)", 1, 6);
        faultOf("(t,s)", 1, 2);
        faultOf("(t", 1, 2);
        faultOf("()", 1, 1);
        faultOf("t)", 1, 1);
        faultOf("t 5", 1, 2);
        faultOf("5t", 1, 1);
        faultOf("5 5", 1, 2);
        faultOf("t(5)", 1, 1);
        faultOf("+t", 1, 0);
        faultOf("t+*t", 1, 2);
        faultOf("t$", 1, 1);
        faultOf("t\u00e9", 1, 1);
        faultOf("t\t", 1, 1);
        faultOf("9999", 0, NONE);
        faultOf("10000", 2, 0);
        faultOf("t*00009999", 0, NONE);
        faultOf("t* 00010000", 2, 3);
        faultOf("99999999999999999999999999999999999999999999", 2, 0);
        faultOf("4294967296", 2, 0);
        faultOf("t 10000", 1, 2);
        faultOf("10000+", 2, 0);
        faultOf("t+)10000", 1, 2);
        faultOf("((((((((t))))))))", 0, NONE);
        faultOf("(((((((( (t)))))))))", 3, 9);
        faultOf("((((((((t)))))))) + ((((((((t))))))))", 0, NONE);
        faultOf("--------t*--------t", 0, NONE);
        faultOf("-(-(-(-(t))))", 0, NONE);
        faultOf("-(-(-(-(-t))))", 3, 8);
        faultOf("((((((((t-t-t))))))))", 0, NONE);
        faultOf("((((((((t-(t)))))))))", 3, 10);
        faultOf("((((((((max (t,t)))))))))", 3, 12);
        faultOf("((((((((max t))))))))", 1, 12);
        faultOf("(((((((max(t,-t))))))))", 3, 13);
        faultOf("((((((((t (t)", 1, 10);
        faultOf("((((((((10000", 2, 8);
    }

    private static void tellsOf(String text, int due) {
        Mill x = new Mill();
        Due.is("text " + text, Due.text(x, text), true);
        Due.is("tells of " + text, x.tells(11, 7, 5, 3, 2), due);
    }

    private static void promise15Tells() {
        tellsOf("t", 11);
        tellsOf("s", 7);
        tellsOf("m", 5);
        tellsOf("b", 3);
        tellsOf("h", 2);
        tellsOf("t-s-m", -1);
        tellsOf("t-s*m", -24);
        tellsOf("t/b/h", 1);
        tellsOf("t/b*h", 6);
        tellsOf("-t/h", -5);
        tellsOf("t/-h", -5);
        tellsOf("(0-t)/h", -5);
        tellsOf("t/0", 0);
        tellsOf("t/(s-s)", 0);
        tellsOf("min(t,s)-max(t,s)", -4);
        tellsOf("min(s,t)-max(s,t)", -4);
        tellsOf("9999*9999*9999", 1000000000);
        tellsOf("9999*9999*9999-1", 999999999);
        tellsOf("-9999*9999*9999+1", -999999999);
        tellsOf("9999*9999*9999/9999", 100010);
        tellsOf("9999*9999*10+9999*9999-9999*9999*10", 199990);
        tellsOf("9999*9999*9999*(9999*9999*9999)", 1000000000);
        tellsOf("- 9999*9999*9999*(9999*9999*9999)", -1000000000);
        tellsOf("0012", 12);
        Mill x = new Mill();
        Due.text(x, "t+s+m+b+h");
        int[] v = {1000000, 1000000, 1000000, 1000000, 1000000};
        Due.is("most", x.tells(v[0], v[1], v[2], v[3], v[4]), 5000000);
        Due.is("least", x.tells(-v[0], -v[1], -v[2], -v[3], -v[4]), -5000000);
        for (int i = 0; i < 5; i++) {
            v[i] = 1000001;
            Due.is("above", x.tells(v[0], v[1], v[2], v[3], v[4]), NOTHING);
            v[i] = -1000001;
            Due.is("below", x.tells(v[0], v[1], v[2], v[3], v[4]), NOTHING);
            v[i] = Integer.MIN_VALUE;
            Due.is("far below", x.tells(v[0], v[1], v[2], v[3], v[4]), NOTHING);
            v[i] = 1000000;
        }
    }

    private static void promise16Sweet() {
        Mill x = withFarms(1);
        x.field(0, 10, 0, 10, 100, 7);
        Due.is("ripe", x.sweet(0, 100), 10);
        Due.is("6 ahead", x.sweet(0, 94), 10);
        Due.is("7 ahead", x.sweet(0, 93), 9);
        Due.is("6 behind", x.sweet(0, 106), 10);
        Due.is("7 behind", x.sweet(0, 107), 9);
        Due.is("69 behind", x.sweet(0, 169), 1);
        Due.is("70 behind", x.sweet(0, 170), 0);
        Due.is("0 at least", x.sweet(0, 4000), 0);
        Due.is("below", x.sweet(0, -1), NONE);
        Due.is("beyond", x.sweet(0, 4001), NONE);
        Due.is("no field", x.sweet(1, 100), NONE);
        Due.is("no field", x.sweet(-1, 100), NONE);
        x.hours(100);
        x.fire(0);
        Due.is("burnt", x.sweet(0, 100), 8);
        Due.is("burnt, ahead", x.sweet(0, 0), 8);
        Due.is("burnt, behind", x.sweet(0, 4000), 8);
        Due.is("burnt, beyond", x.sweet(0, 4001), NONE);
        x.hours(12);
        Due.is("gone", x.sweet(0, 100), 8);
    }

    private static void fieldIs(Mill x, int field, int... due) {
        for (int what = 0; what < due.length; what++) {
            Due.is("fieldOf(" + field + ", " + what + ")", x.fieldOf(field, what), due[what]);
        }
    }

    private static void promise17FieldOf() {
        Mill x = withFarms(2);
        x.field(1, 25, 0, 10, 0, 100);
        x.field(0, 3, 0, 10, 0, 100);
        fieldIs(x, 0, 1, 25, 0, 0, 0, 0, NONE);
        Due.is("what -1", x.fieldOf(0, -1), NONE);
        Due.is("what 7", x.fieldOf(0, 7), NONE);
        Due.is("no field", x.fieldOf(2, 0), NONE);
        Due.is("no field", x.fieldOf(-1, 0), NONE);
        x.fire(0);
        fieldIs(x, 0, 1, 25, 0, 0, 1, 0, NONE);
        x.cut(0, 2);
        fieldIs(x, 0, 1, 25, 1, 0, 1, 2, NONE);
        x.hours(2);
        fieldIs(x, 0, 1, 25, 1, 20, 1, 2, NONE);
        x.hours(1);
        fieldIs(x, 0, 1, 25, 2, 25, 1, 0, 0);
        x.fire(1);
        x.hours(12);
        fieldIs(x, 1, 0, 3, 3, 0, 1, 0, NONE);
    }

    private static void loadIs(Mill x, int load, int... due) {
        for (int what = 0; what < due.length; what++) {
            Due.is("load(" + load + ", " + what + ")", x.load(load, what), due[what]);
        }
    }

    private static void promise18Load() {
        Mill x = withFarms(1);
        x.field(0, 30, 20, 10, 4, 1);
        x.field(0, 30, 20, 12, 0, 1);
        cutInNewRound(x, 0, 2);
        x.hours(2);
        Due.is("no load yet", x.load(0, 0), NONE);
        x.fire(1);
        x.hours(1);
        loadIs(x, 0, 0, 3, 9, 27, 5, 0, 0, 0, NOTHING);
        Due.is("what 9", x.load(0, 9), NONE);
        Due.is("what -1", x.load(0, -1), NONE);
        Due.is("no load", x.load(1, 0), NONE);
        Due.is("no load", x.load(-1, 0), NONE);
        x.cut(1, 3);
        x.hours(2);
        loadIs(x, 1, 1, 5, 8, 17, 7, 0, 0, 0, NOTHING);
        x.hours(1);
        loadIs(x, 0, 0, 3, 9, 27, 5, 20, 0, 0, NOTHING);
        x.hours(1);
        loadIs(x, 0, 0, 3, 9, 27, 5, 30, 0, 1, NOTHING);
        x.hours(17);
        loadIs(x, 0, 0, 3, 9, 27, 5, 30, 0, 1, 30);
        loadIs(x, 1, 1, 5, 8, 17, 7, 30, 0, 1, 30);
    }

    private static void promise19Bundle() {
        Mill x = withFarms(1);
        x.rules(9, 20, 9, 7);
        x.field(0, 20, 0, 10, 0, 100);
        x.field(0, 20, 10, 10, 0, 100);
        x.fire(1);
        x.hours(1);
        cutInNewRound(x, 0, 1);
        x.hours(1);
        Due.is("burnt", x.cut(1, 1), true);
        x.hours(2);
        Due.is("7 of the first", x.about(7), 7);
        x.hours(3);
        int[] due = new int[28];
        for (int i = 7; i < 27; i++) {
            due[i] = 1;
        }
        Due.is("crushed", x.about(7), 28);
        for (int i = 0; i < due.length; i++) {
            Due.is("bundle(" + i + ")", x.bundle(i), due[i]);
        }
        Due.is("bundle(28)", x.bundle(28), NONE);
        Due.is("bundle(-1)", x.bundle(-1), NONE);
        Due.is("bundle(MAX)", x.bundle(Integer.MAX_VALUE), NONE);
        x.hours(2);
        Due.is("bundle(39)", x.bundle(39), 0);
        Due.is("bundle(40)", x.bundle(40), NONE);
    }

    private static void bestIs(Mill x, int set, int g, int worth, int part) {
        Due.is("best(" + set + ", " + g + ")", x.best(set, g), worth);
        Due.is("bestSet(" + set + ", " + g + ")", x.bestSet(set, g), part);
    }

    private static void promise20And21Best() {
        Mill x = withFarms(1);
        x.rules(9, 10, 3, 100);
        for (int i = 0; i < 4; i++) {
            x.field(0, 10, 0, 10, 0, 100);
        }
        bestIs(x, 0, 9, 0, 0);
        bestIs(x, 15, 2, 200, 3);
        bestIs(x, 14, 2, 200, 6);
        bestIs(x, 15, 9, 400, 15);
        bestIs(x, 15, 0, NONE, NONE);
        bestIs(x, 15, 10, NONE, NONE);
        bestIs(x, 15, -1, NONE, NONE);
        bestIs(x, 16, 1, NONE, NONE);
        bestIs(x, -1, 1, NONE, NONE);
        bestIs(x, Integer.MIN_VALUE, 1, NONE, NONE);
        bestIs(x, 1 << 16, 1, NONE, NONE);
        x.field(0, 10, 0, 1, 4000, 1);
        bestIs(x, 16, 1, 0, 0);
        bestIs(x, 31, 9, 400, 15);
        x.fire(1);
        bestIs(x, 7, 2, 200, 5);
        bestIs(x, 7, 3, 280, 7);
        cutInNewRound(x, 0, 1);
        bestIs(x, 1, 1, NONE, NONE);
        bestIs(x, 15, 1, NONE, NONE);
        x.hours(1);
        bestIs(x, 1, 1, NONE, NONE);
        bestIs(x, 2, 1, 80, 2);
        x.hours(11);
        bestIs(x, 2, 1, NONE, NONE);
        bestIs(x, 12, 2, 200, 12);
        bestOfBurntFieldsThatDieSooner();
        bestKeepsTheWayToTheMill();
        bestHeedsNeitherWeatherNorLoads();
    }

    private static void bestOfBurntFieldsThatDieSooner() {
        Mill x = withFarms(1);
        x.rules(9, 20, 9, 5);
        x.field(0, 100, 0, 10, 0, 100);
        x.field(0, 55, 0, 10, 0, 100);
        x.field(0, 56, 0, 10, 0, 100);
        bestIs(x, 1, 1, 1000, 1);
        for (int i = 0; i < 3; i++) {
            x.fire(i);
        }
        bestIs(x, 1, 1, 0, 0);
        bestIs(x, 2, 1, 440, 2);
        bestIs(x, 4, 1, 0, 0);
    }

    private static void bestKeepsTheWayToTheMill() {
        Mill x = withFarms(1);
        x.rules(9, 20, 9, 5);
        x.field(0, 90, 60, 10, 0, 100);
        x.field(0, 91, 60, 10, 0, 100);
        bestIs(x, 1, 1, 900, 1);
        bestIs(x, 2, 1, 0, 0);
        x.hours(98);
        bestIs(x, 1, 1, 90 * 9, 1);
    }

    private static void bestHeedsNeitherWeatherNorLoads() {
        Mill x = withFarms(1);
        x.rules(9, 20, 1, 5);
        x.field(0, 100, 0, 10, 0, 100);
        x.field(0, 100, 0, 10, 0, 100);
        cutInNewRound(x, 1, 9);
        x.weather(true, 0, 100);
        x.weather(false, 3, 100);
        x.hours(5);
        bestIs(x, 1, 1, 1000, 1);
    }

    private static void promise22Paid() {
        Mill x = withFarms(2);
        x.rules(9, 20, 9, 10);
        Due.is("text", Due.text(x, "t*100+s*9999-m*1000+b*1000-1-h"), true);
        x.field(0, 20, 0, 10, 0, 100);
        x.field(1, 20, 0, 25, 0, 100);
        x.fire(1);
        Due.is("burnt", x.cut(1, 1), true);
        if (x.round(0) != 0) {
            x.pass();
        }
        Due.is("in its turn", x.cut(0, 1), true);
        x.hours(23);
        Due.is("not yet paid", x.paid(0), 0);
        Due.is("not yet paid", x.paid(1), 0);
        x.hours(1);
        int mean = (20 * 10 + 20 * 23) / 40;
        Due.is("mean", x.about(9), mean);
        // The burnt load dies first: hours 2 and 3 crush it, 4 and 5 the other one.
        int first = 2000 + 23 * 9999 - mean * 1000 + 1000 - 1 - (4 - 1);
        int second = 2000 + 10 * 9999 - mean * 1000 - 1 - (6 - 1);
        Due.is("paid(1)", x.paid(1), first);
        Due.is("paid(0)", x.paid(0), second);
        Due.is("no farm", x.paid(2), 0);
        Due.is("no farm", x.paid(-1), 0);
        x.hours(24);
        Due.is("paid once", x.paid(0), second);
        Due.is("mean of a day without loads", x.about(9), 0);
        paidInTheDayInWhichItIsOver();
        paidBeyondAnInt();
    }

    private static void paidInTheDayInWhichItIsOver() {
        Mill x = withFarms(1);
        x.rules(9, 20, 9, 10);
        x.field(0, 20, 0, 10, 0, 100);
        x.field(0, 20, 0, 20, 0, 100);
        x.hours(21);
        cutInNewRound(x, 0, 1);
        x.hours(1);
        cutInNewRound(x, 1, 1);
        x.hours(2);
        Due.is("half of it is crushed", x.load(0, 5), 10);
        Due.is("not over in this day", x.load(0, 8), NOTHING);
        Due.is("mean without loads", x.about(9), 0);
        x.hours(24);
        Due.is("paid in the next", x.load(0, 8), 20);
        Due.is("mean", x.about(9), 15);
        Due.is("paid", x.paid(0), 40);
    }

    private static void paidBeyondAnInt() {
        Mill x = withFarms(1);
        x.rules(9, 20, 9, 100);
        Due.text(x, "9999*9999*9999");
        for (int i = 0; i < 5; i++) {
            x.field(0, 20, 0, 10, 0, 100);
            cutInNewRound(x, i, 1);
        }
        x.hours(24);
        Due.is("paid", x.paid(0), 5000000000L);
        Due.text(x, "-9999*9999*9999");
        x.field(0, 20, 0, 10, 0, 100);
        cutInNewRound(x, 5, 1);
        x.hours(24);
        Due.is("a farm may lose", x.load(5, 8), -1000000000);
        Due.is("paid", x.paid(0), 4000000000L);
    }

    private static void promise23About() {
        Mill x = withFarms(2);
        x.rules(4, 5, 2, 20);
        x.field(0, 20, 20, 10, 0, 100);
        x.field(1, 20, 0, 10, 0, 100);
        x.field(1, 20, 0, 10, 0, 100);
        x.feed(0, 0, 0, 0, 0);
        x.round(0);
        int first = x.about(6);
        x.cut(first, 2);
        int[] atFirst = {0, 2, 3, 0, 2, 2, 1 - first, 0, 0, NONE, 20};
        aboutIs(x, atFirst);
        x.hours(2);
        int[] later = {2, 2, 3, 1, 4, 1, 1 - first, 0, 0, NONE, 20};
        aboutIs(x, later);
        for (int what : new int[] {-1, 11, 12, 19, 22, 30, 1000, Integer.MAX_VALUE, Integer.MIN_VALUE}) {
            Due.is("about(" + what + ")", x.about(what), NONE);
        }
        Due.is("about(20)", x.about(20), first);
        Due.is("about(21)", x.about(21), 1 - first);
        x.hours(22);
        Due.is("mean", x.about(9), 10);
        Due.is("crushed", x.about(7), 20);
    }

    private static void aboutIs(Mill x, int[] due) {
        for (int what = 0; what < due.length; what++) {
            Due.is("about(" + what + ")", x.about(what), due[what]);
        }
    }
}
