/**
 * A sugar mill and its farms, hour by hour.
 *
 * <p>"Ahead of" means earlier and "behind" means later, as in the document. Things that are
 * numbered are kept in chains in the order of their numbers, so that no index can go astray.
 */
public final class CaneRounds {
    /** None. */
    public static final int NONE = -1;

    private static final int LAST_HOUR = 4000;
    private static final int DAY = 24;
    private static final int MOST_HOURS_AT_ONCE = 100;
    private static final int MOST_FIELDS = 16;
    private static final int MOST_GANGS = 9;
    private static final int MOST_TOLD = 1000000;
    private static final int NOTHING_TOLD = -2000000000;
    private static final int FIRST_OF_ORDER = 20;

    private int gangs = 3;
    private int rate = 5;
    private int trucks = 3;
    private int crush = 20;
    private int clock;
    private int mean = NONE;
    private Field firstField;
    private Field lastField;
    private Load firstLoad;
    private Load lastLoad;
    private final Farms farms = new Farms();
    private final Weather weather = new Weather();
    private final Bundles bundles = new Bundles();
    private final Chooser chooser = new Chooser();
    private final Tape tape = new Tape();
    private Formula formula = new Formula();
    private Formula spareFormula = new Formula();
    private int latestFault = NONE;
    private int latestPlace = NONE;

    /** A mill without farms, fields and round. */
    public CaneRounds() {
    }

    /** Sets the rules, as long as no hour has gone by. */
    public boolean rules(int gangs, int rate, int trucks, int crush) {
        boolean allowed = isWithin(gangs, 1, MOST_GANGS) && isWithin(rate, 1, 20)
                && isWithin(trucks, 1, 9) && isWithin(crush, 1, 100);
        if (!allowed || clock > 0) {
            return false;
        }
        this.gangs = gangs;
        this.rate = rate;
        this.trucks = trucks;
        this.crush = crush;
        return true;
    }

    /** Adds a farm and answers its number. */
    public int farm() {
        return farms.add();
    }

    /** Adds a field of a farm and answers its number. */
    public int field(int farm, int tons, int km, int top, int ripe, int fades) {
        boolean allowed = isWithin(farm, 0, farms.count - 1) && isWithin(tons, 1, 200)
                && isWithin(km, 0, 60) && isWithin(top, 1, 30)
                && isWithin(ripe, 0, LAST_HOUR) && isWithin(fades, 1, 100);
        int number = fieldCount();
        if (!allowed || number >= MOST_FIELDS) {
            return NONE;
        }
        Field added = new Field(number, farm, tons, km, top, ripe, fades);
        if (lastField == null) {
            firstField = added;
        } else {
            lastField.next = added;
        }
        lastField = added;
        return number;
    }

    /** Tells rain, or a stop of the mill, from an hour to the one ahead of another. */
    public boolean weather(boolean stops, int from, int to) {
        if (from < clock || to <= from || to > LAST_HOUR) {
            return false;
        }
        return weather.add(stops, from, to);
    }

    /** Begins a round and answers the farm whose turn it is. */
    public int round(int seed) {
        farms.drawLots(seed);
        return farms.turn();
    }

    /** Lets the farm whose turn it is pass and answers whose turn it is then. */
    public int pass() {
        farms.settleTurn();
        return farms.turn();
    }

    /** Begins to cut a field with so many gangs. */
    public boolean cut(int field, int gangs) {
        Field f = findField(field);
        if (f == null || f.state != Field.STANDS) {
            return false;
        }
        if (!isWithin(gangs, 1, MOST_GANGS) || gangs > freeGangs()) {
            return false;
        }
        boolean inTurn = farms.turn() == f.farm;
        if (!inTurn && !f.burnt) {
            return false;
        }
        // A burnt field that is cut out of turn does not use up its farm's turn.
        if (inTurn) {
            farms.settleTurn();
        }
        f.state = Field.BEING_CUT;
        f.gangs = gangs;
        return true;
    }

    /** Sets a standing field on fire at the clock's hour. */
    public boolean fire(int field) {
        Field f = findField(field);
        if (f == null || f.burnt || f.state != Field.STANDS) {
            return false;
        }
        f.burn(clock);
        return true;
    }

    /** Lets hours go by and answers the clock's hour. */
    public int hours(int n) {
        if (!isWithin(n, 1, MOST_HOURS_AT_ONCE) || clock + n > LAST_HOUR) {
            return NONE;
        }
        for (int i = 0; i < n; i++) {
            passHour();
        }
        return clock;
    }

    /** Puts twenty bytes behind the tape and answers how many it has. */
    public int feed(int a, int b, int c, int d, int e) {
        if (tape.length > Tape.ROOM - 20) {
            return NONE;
        }
        tape.append(a);
        tape.append(b);
        tape.append(c);
        tape.append(d);
        tape.append(e);
        return tape.length;
    }

    /** Leaves the tape its first n bytes alone. */
    public int end(int n) {
        if (!isWithin(n, 0, tape.length)) {
            return NONE;
        }
        tape.length = n;
        return n;
    }

    /** Makes the tape the text by which loads are paid, if it has no fault. */
    public boolean text() {
        spareFormula.split(tape.bytes, tape.length);
        spareFormula.tell(0, 0, 0, 0, 0);
        tape.length = 0;
        latestFault = spareFormula.fault;
        latestPlace = spareFormula.place;
        if (latestFault != Formula.NO_FAULT) {
            return false;
        }
        Formula former = formula;
        formula = spareFormula;
        spareFormula = former;
        return true;
    }

    /** Tells the fault of the latest text (0), or its place (1). */
    public int fault(int what) {
        switch (what) {
            case 0: return latestFault;
            case 1: return latestPlace;
            default: return NONE;
        }
    }

    /** What the text tells of a load. */
    public int tells(int t, int s, int m, int b, int h) {
        boolean allowed = isTold(t) && isTold(s) && isTold(m) && isTold(b) && isTold(h);
        return allowed ? formula.tell(t, s, m, b, h) : NOTHING_TOLD;
    }

    /** How sweet a field is at an hour. */
    public int sweet(int field, int hour) {
        Field f = findField(field);
        if (f == null || !isWithin(hour, 0, LAST_HOUR)) {
            return NONE;
        }
        return f.sweetAt(hour);
    }

    /** Tells something of a field. */
    public int fieldOf(int field, int what) {
        Field f = findField(field);
        if (f == null) {
            return NONE;
        }
        switch (what) {
            case 0: return f.farm;
            case 1: return f.tons;
            case 2: return f.state;
            case 3: return f.tonsCut;
            case 4: return f.burnt ? 1 : 0;
            case 5: return f.gangs;
            case 6: return f.load;
            default: return NONE;
        }
    }

    /** Tells something of a load. */
    public int load(int l, int what) {
        Load found = findLoad(l);
        if (found == null) {
            return NONE;
        }
        switch (what) {
            case 0: return found.field.number;
            case 1: return found.cutAt;
            case 2: return found.sweet;
            case 3: return found.dies;
            case 4: return found.atMill;
            case 5: return found.crushed;
            case 6: return found.lost;
            case 7: return found.isOver() ? 1 : 0;
            case 8: return found.pay;
            default: return NONE;
        }
    }

    /** The field of the i-th ton that the mill crushed. */
    public int bundle(int i) {
        return bundles.fieldOfTon(i);
    }

    /** What the best part of a set of fields is worth, for g gangs. */
    public int best(int set, int g) {
        return choose(set, g) ? chooser.bestWorth : NONE;
    }

    /** The best part of a set of fields, for g gangs. */
    public int bestSet(int set, int g) {
        return choose(set, g) ? chooser.bestSet : NONE;
    }

    /** What a farm was paid. */
    public long paid(int farm) {
        return farms.earnedBy(farm);
    }

    /** Tells something of the whole. */
    public int about(int what) {
        switch (what) {
            case 0: return clock;
            case 1: return farms.count;
            case 2: return fieldCount();
            case 3: return loadCount();
            case 4: return freeGangs();
            case 5: return freeTrucks();
            case 6: return farms.turn();
            case 7: return bundles.count();
            case 8: return tonsLost();
            case 9: return mean;
            case 10: return tape.length;
            default: return what < FIRST_OF_ORDER ? NONE : farms.inOrder(what - FIRST_OF_ORDER);
        }
    }

    private int fieldCount() {
        return lastField == null ? 0 : lastField.number + 1;
    }

    private int loadCount() {
        return lastLoad == null ? 0 : lastLoad.number + 1;
    }

    private Field findField(int number) {
        for (Field f = firstField; f != null; f = f.next) {
            if (f.number == number) {
                return f;
            }
        }
        return null;
    }

    private Load findLoad(int number) {
        for (Load l = firstLoad; l != null; l = l.next) {
            if (l.number == number) {
                return l;
            }
        }
        return null;
    }

    /** Below 0 if the rules came to have fewer gangs than are cutting already. */
    private int freeGangs() {
        int free = gangs;
        for (Field f = firstField; f != null; f = f.next) {
            free -= f.gangs;
        }
        return free;
    }

    private int freeTrucks() {
        int free = trucks;
        for (Load l = firstLoad; l != null; l = l.next) {
            if (l.truckFreeAt > clock) {
                free--;
            }
        }
        return free;
    }

    private int tonsLost() {
        int tons = 0;
        for (Load l = firstLoad; l != null; l = l.next) {
            tons += l.lost;
        }
        return tons;
    }

    private void passHour() {
        if (!weather.holds(false, clock)) {
            goOnCutting();
        }
        sendTrucks();
        if (!weather.holds(true, clock)) {
            crushLoads();
        }
        endLoads();
        endFires();
        if ((clock + 1) % DAY == 0) {
            payDay();
        }
        clock++;
    }

    private void goOnCutting() {
        for (Field f = firstField; f != null; f = f.next) {
            if (f.state == Field.BEING_CUT) {
                f.goOn(rate);
                if (f.state == Field.CUT) {
                    addLoad(f);
                }
            }
        }
    }

    private void addLoad(Field cutField) {
        Load added = new Load(loadCount(), cutField, clock + 1);
        if (lastLoad == null) {
            firstLoad = added;
        } else {
            lastLoad.next = added;
        }
        lastLoad = added;
        cutField.load = added.number;
    }

    private void sendTrucks() {
        int free = freeTrucks();
        for (Load l = firstLoad; l != null && free > 0; l = l.next) {
            // A load that was lost as it waited has nothing left for a truck to take.
            if (l.atMill == NONE && !l.isOver()) {
                l.leave(clock + 1);
                free--;
            }
        }
    }

    private void crushLoads() {
        int room = crush;
        for (int i = 0; i < MOST_FIELDS && room > 0; i++) {
            Load l = nextToCrush();
            if (l == null) {
                return;
            }
            int tons = Math.min(room, l.tonsLeft());
            l.crushed += tons;
            room -= tons;
            bundles.add(l.field.number, tons);
        }
    }

    /** The load at the mill that dies first, the lowest of like ones; null without. */
    private Load nextToCrush() {
        Load next = null;
        for (Load l = firstLoad; l != null; l = l.next) {
            boolean waits = l.isAtMill(clock) && l.tonsLeft() > 0;
            if (waits && (next == null || l.dies < next.dies)) {
                next = l;
            }
        }
        return next;
    }

    private void endLoads() {
        int now = clock + 1;
        for (Load l = firstLoad; l != null; l = l.next) {
            if (l.dies <= now) {
                l.lost += l.tonsLeft();
            }
            if (l.tonsLeft() == 0 && !l.isOver()) {
                l.overAt = now;
            }
        }
    }

    private void endFires() {
        for (Field f = firstField; f != null; f = f.next) {
            if (f.burnt && f.state == Field.STANDS && clock + 1 >= f.burntAt + Field.BURNS) {
                f.state = Field.GONE;
            }
        }
    }

    private void payDay() {
        mean = meanOfDay();
        for (Load l = firstLoad; l != null; l = l.next) {
            if (l.isToBePaid()) {
                int burnt = l.field.burnt ? 1 : 0;
                l.pay = formula.tell(l.crushed, l.sweet, mean, burnt, l.overAt - l.cutAt);
                farms.give(l.field.farm, l.pay);
            }
        }
    }

    /** Loads of earlier days are paid already, so what is to be paid came to be over in this one. */
    private int meanOfDay() {
        int tons = 0;
        int sweetness = 0;
        for (Load l = firstLoad; l != null; l = l.next) {
            if (l.isToBePaid()) {
                tons += l.crushed;
                sweetness += l.crushed * l.sweet;
            }
        }
        return quotient(sweetness, tons);
    }

    /** Whether there is a best part of the set; the chooser has it then. */
    private boolean choose(int set, int g) {
        if (!isWithin(g, 1, MOST_GANGS) || (set & ~standingFields()) != 0) {
            return false;
        }
        chooser.clear(crush);
        for (Field f = firstField; f != null; f = f.next) {
            if (holdsBit(set, f.number)) {
                int cuttingHours = quotient(f.tons + rate - 1, rate);
                chooser.offer(f, clock + cuttingHours);
            }
        }
        chooser.decide(g);
        return true;
    }

    private int standingFields() {
        int set = 0;
        for (Field f = firstField; f != null; f = f.next) {
            if (f.state == Field.STANDS) {
                set |= 1 << f.number;
            }
        }
        return set;
    }

    private static boolean isWithin(int value, int least, int most) {
        return value >= least && value <= most;
    }

    private static boolean isTold(int value) {
        return isWithin(value, -MOST_TOLD, MOST_TOLD);
    }

    private static boolean holdsBit(int set, int bit) {
        return (set >> bit & 1) != 0;
    }

    /** Cut to 0; by 0 it is 0. */
    private static int quotient(int value, int divisor) {
        return divisor == 0 ? 0 : value / divisor;
    }

    /** The farms, what they earned, and the round in which they cut. */
    private static final class Farms {
        private static final int MOST = 10;

        private final long[] earned = new long[MOST];
        private final int[] order = new int[MOST];
        private int count;
        private int ordered;
        /** Only the farm whose turn it is can settle it, so the settled ones are the order's first. */
        private int settled;

        private int add() {
            if (count >= MOST) {
                return NONE;
            }
            count++;
            return count - 1;
        }

        private void drawLots(int seed) {
            ordered = count;
            settled = 0;
            for (int i = 0; i < ordered; i++) {
                order[i] = i;
            }
            int s = seed;
            for (int i = 0; i < ordered - 1; i++) {
                s = s * 1103515245 + 12345;
                int other = i + (s >>> 16) % (ordered - i);
                int farm = order[i];
                order[i] = order[other];
                order[other] = farm;
            }
        }

        private int inOrder(int place) {
            return isWithin(place, 0, ordered - 1) ? order[place] : NONE;
        }

        private int turn() {
            return inOrder(settled);
        }

        private void settleTurn() {
            if (settled < ordered) {
                settled++;
            }
        }

        private void give(int farm, int pay) {
            if (isWithin(farm, 0, count - 1)) {
                earned[farm] += pay;
            }
        }

        private long earnedBy(int farm) {
            return isWithin(farm, 0, count - 1) ? earned[farm] : 0L;
        }
    }

    private static final class Field {
        private static final int STANDS = 0;
        private static final int BEING_CUT = 1;
        private static final int CUT = 2;
        private static final int GONE = 3;
        /** How many hours a field that is on fire can still be cut. */
        private static final int BURNS = 12;

        private final int number;
        private final int farm;
        private final int tons;
        private final int km;
        private final int top;
        private final int ripe;
        private final int fades;
        private int state = STANDS;
        private int tonsCut;
        private int gangs;
        private boolean burnt;
        private int burntAt;
        private int burntSweet;
        private int load = NONE;
        private Field next;

        private Field(int number, int farm, int tons, int km, int top, int ripe, int fades) {
            this.number = number;
            this.farm = farm;
            this.tons = tons;
            this.km = km;
            this.top = top;
            this.ripe = ripe;
            this.fades = fades;
        }

        private int sweetAt(int hour) {
            if (burnt) {
                return burntSweet;
            }
            return Math.max(0, top - quotient(Math.abs(hour - ripe), fades));
        }

        private int hoursToMill() {
            return Math.max(1, (km + 9) / 10);
        }

        private int hoursToDeath() {
            return burnt ? 12 : 24;
        }

        private void burn(int hour) {
            burntSweet = Math.max(0, sweetAt(hour) - 2);
            burntAt = hour;
            burnt = true;
        }

        private void goOn(int rate) {
            tonsCut = Math.min(tons, tonsCut + rate * gangs);
            if (tonsCut == tons) {
                gangs = 0;
                state = CUT;
            }
        }
    }

    private static final class Load {
        private final int number;
        private final Field field;
        private final int cutAt;
        private final int sweet;
        private final int dies;
        private int atMill = NONE;
        private int truckFreeAt;
        private int crushed;
        private int lost;
        private int overAt = NONE;
        private int pay = NOTHING_TOLD;
        private Load next;

        private Load(int number, Field field, int cutAt) {
            this.number = number;
            this.field = field;
            this.cutAt = cutAt;
            this.sweet = field.sweetAt(cutAt);
            this.dies = cutAt + field.hoursToDeath();
        }

        private void leave(int hour) {
            int way = field.hoursToMill();
            atMill = hour + way;
            truckFreeAt = atMill + way;
        }

        private boolean isAtMill(int hour) {
            return atMill != NONE && atMill <= hour;
        }

        private int tonsLeft() {
            return field.tons - crushed - lost;
        }

        private boolean isOver() {
            return overAt != NONE;
        }

        private boolean isToBePaid() {
            return isOver() && pay == NOTHING_TOLD;
        }
    }

    /** Rain and stops of the mill. */
    private static final class Weather {
        private static final int MOST = 20;

        private Span latest;
        private int count;

        private boolean add(boolean stops, int from, int to) {
            if (count >= MOST) {
                return false;
            }
            latest = new Span(stops, from, to, latest);
            count++;
            return true;
        }

        private boolean holds(boolean stops, int hour) {
            for (Span s = latest; s != null; s = s.earlier) {
                if (s.stops == stops && s.from <= hour && hour < s.to) {
                    return true;
                }
            }
            return false;
        }
    }

    private static final class Span {
        private final boolean stops;
        private final int from;
        private final int to;
        private final Span earlier;

        private Span(boolean stops, int from, int to, Span earlier) {
            this.stops = stops;
            this.from = from;
            this.to = to;
            this.earlier = earlier;
        }
    }

    /** The tons that the mill crushed, those of one field behind one another kept as one batch. */
    private static final class Bundles {
        private Batch first;
        private Batch last;

        private void add(int field, int tons) {
            int end = count() + tons;
            if (last != null && last.field == field) {
                last.end = end;
                return;
            }
            Batch added = new Batch(field, end);
            if (last == null) {
                first = added;
            } else {
                last.next = added;
            }
            last = added;
        }

        private int count() {
            return last == null ? 0 : last.end;
        }

        private int fieldOfTon(int ton) {
            if (ton < 0) {
                return NONE;
            }
            for (Batch b = first; b != null; b = b.next) {
                if (ton < b.end) {
                    return b.field;
                }
            }
            return NONE;
        }
    }

    private static final class Batch {
        private final int field;
        private int end;
        private Batch next;

        private Batch(int field, int end) {
            this.field = field;
            this.end = end;
        }
    }

    private static final class Tape {
        private static final int ROOM = 100;

        private final byte[] bytes = new byte[ROOM];
        private int length;

        /** Puts the four bytes of a word behind the tape, the highest first. */
        private void append(int word) {
            for (int shift = 24; shift >= 0 && length < ROOM; shift -= 8) {
                bytes[length] = (byte) (word >> shift);
                length++;
            }
        }
    }

    /**
     * A text as tokens, read anew from the left each time it tells: the first reading finds its
     * fault, if it has one, and a text without one never faults later.
     */
    private static final class Formula {
        private static final int NO_FAULT = 0;
        private static final int MISPLACED = 1;
        private static final int TOO_LARGE = 2;
        private static final int TOO_DEEP = 3;

        private static final int MOST_TOKENS = Tape.ROOM;
        private static final int MOST_OPEN = 8;
        private static final int LARGEST_NUMBER = 9999;
        private static final int FARTHEST = 1000000000;

        /** Signs and single letters are tokens by their own byte, a number by NUMBER and its value. */
        private static final int END = 0;
        private static final int UNKNOWN = 1;
        private static final int MIN = 2;
        private static final int MAX = 3;
        private static final int NUMBER = 1000;

        private final int[] tokens = new int[MOST_TOKENS + 1];
        private final int[] places = new int[MOST_TOKENS + 1];
        private int count;
        private int at;
        private int fault;
        private int place;
        private int t;
        private int s;
        private int m;
        private int b;
        private int h;

        /** The text at first: 1 * t. */
        private Formula() {
            tokens[0] = NUMBER + 1;
            tokens[1] = '*';
            tokens[2] = 't';
            tokens[3] = END;
            count = 4;
        }

        private void split(byte[] bytes, int length) {
            count = 0;
            int end = Math.min(length, bytes.length);
            for (int i = 0; i < end; i++) {
                int first = i;
                int kind = kindOf(bytes[first]);
                boolean runs = kind == 'a' || kind == '0';
                while (runs && i + 1 < end && kindOf(bytes[i + 1]) == kind) {
                    i++;
                }
                if (kind == 'a') {
                    put(wordToken(bytes, first, i), first);
                } else if (kind == '0') {
                    put(numberToken(bytes, first, i), first);
                } else if (kind != ' ') {
                    put(kind, first);
                }
            }
            put(END, end);
        }

        private void put(int token, int where) {
            if (count < tokens.length && count < places.length) {
                tokens[count] = token;
                places[count] = where;
                count++;
            }
        }

        /** 'a' for letters, '0' for digits, a sign or blank itself, UNKNOWN for all others. */
        private static int kindOf(int c) {
            if (isWithin(c, 'a', 'z') || isWithin(c, 'A', 'Z')) {
                return 'a';
            }
            if (isWithin(c, '0', '9')) {
                return '0';
            }
            boolean sign = c == '+' || c == '-' || c == '*' || c == '/' || c == '(' || c == ')' || c == ',';
            return sign || c == ' ' ? c : UNKNOWN;
        }

        private static int wordToken(byte[] bytes, int first, int last) {
            if (first < 0 || last >= bytes.length) {
                return UNKNOWN;
            }
            int c = first <= last ? bytes[first] : UNKNOWN;
            if (last == first) {
                return c == 't' || c == 's' || c == 'm' || c == 'b' || c == 'h' ? c : UNKNOWN;
            }
            if (last != first + 2 || c != 'm') {
                return UNKNOWN;
            }
            if (bytes[first + 1] == 'i' && bytes[last] == 'n') {
                return MIN;
            }
            return bytes[first + 1] == 'a' && bytes[last] == 'x' ? MAX : UNKNOWN;
        }

        private static int numberToken(byte[] bytes, int first, int last) {
            int value = 0;
            for (int i = Math.max(0, first); i <= last && i < bytes.length; i++) {
                value = Math.min(value * 10 + bytes[i] - '0', LARGEST_NUMBER + 1);
            }
            return NUMBER + value;
        }

        private int tell(int t, int s, int m, int b, int h) {
            this.t = t;
            this.s = s;
            this.m = m;
            this.b = b;
            this.h = h;
            at = 0;
            fault = NO_FAULT;
            place = NONE;
            int value = sum(0);
            take(END);
            return value;
        }

        private int sum(int open) {
            int value = product(open);
            for (int i = 0; i < MOST_TOKENS && (token() == '+' || token() == '-'); i++) {
                boolean adds = token() == '+';
                at++;
                int other = product(open);
                value = limit(adds ? (long) value + other : (long) value - other);
            }
            return value;
        }

        private int product(int open) {
            int value = one(open);
            for (int i = 0; i < MOST_TOKENS && (token() == '*' || token() == '/'); i++) {
                boolean multiplies = token() == '*';
                at++;
                int other = one(open);
                value = multiplies ? limit((long) value * other) : quotient(value, other);
            }
            return value;
        }

        private int one(int open) {
            int token = token();
            if (token >= NUMBER) {
                return number(token - NUMBER);
            }
            switch (token) {
                case '-': return opens('-', open) ? -one(open + 1) : 0;
                case '(': return bracket(open);
                case MIN: return lesserOrGreater(true, open);
                case MAX: return lesserOrGreater(false, open);
                default: return letter(token);
            }
        }

        private int number(int value) {
            if (value > LARGEST_NUMBER) {
                stop(TOO_LARGE);
                return 0;
            }
            at++;
            return value;
        }

        private int letter(int token) {
            int value = 0;
            switch (token) {
                case 't': value = t; break;
                case 's': value = s; break;
                case 'm': value = m; break;
                case 'b': value = b; break;
                case 'h': value = h; break;
                default: stop(MISPLACED); return 0;
            }
            at++;
            return value;
        }

        private int bracket(int open) {
            if (!opens('(', open)) {
                return 0;
            }
            int value = sum(open + 1);
            take(')');
            return value;
        }

        private int lesserOrGreater(boolean lesser, int open) {
            at++;
            if (!opens('(', open)) {
                return 0;
            }
            int one = sum(open + 1);
            take(',');
            int other = sum(open + 1);
            take(')');
            return lesser ? Math.min(one, other) : Math.max(one, other);
        }

        /** Goes past the token that opens a level, unless it is another one or one too many. */
        private boolean opens(int token, int open) {
            if (token() != token) {
                stop(MISPLACED);
                return false;
            }
            if (open >= MOST_OPEN) {
                stop(TOO_DEEP);
                return false;
            }
            at++;
            return true;
        }

        private void take(int token) {
            if (token() == token) {
                at++;
            } else {
                stop(MISPLACED);
            }
        }

        /** Behind the last token there is the end again, so that reading on there does no harm. */
        private int token() {
            return at < count && at < tokens.length ? tokens[at] : END;
        }

        /** Keeps the first fault, and goes to the end, where all that is still open ceases. */
        private void stop(int kind) {
            if (fault == NO_FAULT) {
                fault = kind;
                place = at < count && at < places.length ? places[at] : NONE;
            }
            at = count;
        }

        private static int limit(long value) {
            return (int) Math.max(-FARTHEST, Math.min(FARTHEST, value));
        }
    }

    /** Finds the best part of a set of fields; its rows have a place for each field's number. */
    private static final class Chooser {
        /** Rows in some order hold a key above the four bits of a field's number. */
        private static final int NUMBER_BITS = 4;
        private static final int NUMBER_MASK = MOST_FIELDS - 1;

        private final int[] tons = new int[MOST_FIELDS];
        private final int[] worth = new int[MOST_FIELDS];
        private final int[] arrives = new int[MOST_FIELDS];
        private final int[] byDeath = new int[MOST_FIELDS];
        private final int[] byWorth = new int[MOST_FIELDS];
        /** most[n][k]: what the k dearest of the candidates below n are worth together. */
        private final int[][] most = new int[MOST_FIELDS + 1][MOST_GANGS + 1];
        private int candidates;
        private int count;
        private int crush;
        private int bestWorth;
        private int bestSet;

        private void clear(int crush) {
            this.crush = crush;
            candidates = 0;
            count = 0;
        }

        /** Passes over what can't be crushed in time, or adds nothing: the least best set lacks it. */
        private void offer(Field f, int cutAt) {
            int i = f.number;
            int comes = cutAt + f.hoursToMill();
            int dies = cutAt + f.hoursToDeath();
            int value = f.tons * f.sweetAt(cutAt);
            if (value == 0 || f.tons > crush * (dies - comes) || !isWithin(i, 0, NUMBER_MASK)) {
                return;
            }
            tons[i] = f.tons;
            worth[i] = value;
            arrives[i] = comes;
            insert(dies << NUMBER_BITS | i, byDeath, count);
            insert(value << NUMBER_BITS | i, byWorth, count);
            candidates |= 1 << i;
            count++;
        }

        /** Puts an entry into a rising row that has room for it. */
        private static void insert(int entry, int[] row, int length) {
            int place = Math.min(length, row.length - 1);
            while (place > 0 && row[place - 1] > entry) {
                row[place] = row[place - 1];
                place--;
            }
            row[place] = entry;
        }

        private void decide(int gangs) {
            for (int n = 1; n <= MOST_FIELDS; n++) {
                sumDearest(n);
            }
            // Starting just below what is easily found spares most of the search.
            bestWorth = worthOfDearestThatFit(gangs) - 1;
            bestSet = 0;
            search(MOST_FIELDS, gangs, 0, 0);
        }

        private void sumDearest(int below) {
            int taken = 0;
            for (int place = count - 1; place >= 0 && taken < MOST_GANGS; place--) {
                int i = byWorth[place] & NUMBER_MASK;
                if (i < below) {
                    most[below][taken + 1] = most[below][taken] + worth[i];
                    taken++;
                }
            }
            for (; taken < MOST_GANGS; taken++) {
                most[below][taken + 1] = most[below][taken];
            }
        }

        private int worthOfDearestThatFit(int gangs) {
            int set = 0;
            int left = gangs;
            int value = 0;
            for (int place = count - 1; place >= 0 && left > 0; place--) {
                int i = byWorth[place] & NUMBER_MASK;
                if (fits(set | 1 << i, i)) {
                    set |= 1 << i;
                    value += worth[i];
                    left--;
                }
            }
            return value;
        }

        /**
         * Decides on the fields below a number, the highest first, and leaves each out ahead of
         * taking it: sets come by rising numbers, so the first of the most worth is the least.
         */
        private void search(int below, int left, int value, int set) {
            if (!isWithin(below, 0, MOST_FIELDS) || !isWithin(left, 0, MOST_GANGS)) {
                return;
            }
            if (value + most[below][left] <= bestWorth) {
                return;
            }
            if (below == 0) {
                bestWorth = value;
                bestSet = set;
                return;
            }
            int i = below - 1;
            search(i, left, value, set);
            int with = set | 1 << i;
            if (left > 0 && holdsBit(candidates, i) && fits(with, i)) {
                search(i, left - 1, value + worth[i], with);
            }
        }

        /**
         * Whether the mill still crushes all of a set in time, now that one was added. As it
         * crushes first what dies first, it fails only if, from some load's coming to some load's
         * death, more tons both come and die than it can crush in these hours; the load that was
         * added is among those tons, or the set would have failed without it.
         */
        private boolean fits(int set, int added) {
            int comes = arrives[added & NUMBER_MASK];
            for (int place = 0; place < count; place++) {
                int i = byDeath[place] & NUMBER_MASK;
                if (holdsBit(set, i) && arrives[i] <= comes && !fitsFrom(arrives[i], set)) {
                    return false;
                }
            }
            return true;
        }

        private boolean fitsFrom(int hour, int set) {
            int due = 0;
            for (int place = 0; place < count; place++) {
                int i = byDeath[place] & NUMBER_MASK;
                if (holdsBit(set, i) && arrives[i] >= hour) {
                    due += tons[i];
                    int dies = byDeath[place] >> NUMBER_BITS;
                    if (due > crush * (dies - hour)) {
                        return false;
                    }
                }
            }
            return true;
        }
    }
}
