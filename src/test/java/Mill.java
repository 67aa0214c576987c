/**
 * A CaneRounds for tests, which counts its calls: the document promises nothing about an object
 * behind its 512th, so a test that goes beyond would test what is free.
 */
final class Mill {
    static final int MOST_CALLS = 512;

    private final CaneRounds inner = new CaneRounds();
    private int calls;

    int callsLeft() {
        return MOST_CALLS - calls;
    }

    private CaneRounds called() {
        calls++;
        if (calls == MOST_CALLS + 1) {
            Due.is("a test calls an object more often than 512 times", true, false);
        }
        return inner;
    }

    boolean rules(int gangs, int rate, int trucks, int crush) {
        return called().rules(gangs, rate, trucks, crush);
    }

    int farm() {
        return called().farm();
    }

    int field(int farm, int tons, int km, int top, int ripe, int fades) {
        return called().field(farm, tons, km, top, ripe, fades);
    }

    boolean weather(boolean stops, int from, int to) {
        return called().weather(stops, from, to);
    }

    int round(int seed) {
        return called().round(seed);
    }

    int pass() {
        return called().pass();
    }

    boolean cut(int field, int gangs) {
        return called().cut(field, gangs);
    }

    boolean fire(int field) {
        return called().fire(field);
    }

    int hours(int n) {
        return called().hours(n);
    }

    int feed(int a, int b, int c, int d, int e) {
        return called().feed(a, b, c, d, e);
    }

    int end(int n) {
        return called().end(n);
    }

    boolean text() {
        return called().text();
    }

    int fault(int what) {
        return called().fault(what);
    }

    int tells(int t, int s, int m, int b, int h) {
        return called().tells(t, s, m, b, h);
    }

    int sweet(int field, int hour) {
        return called().sweet(field, hour);
    }

    int fieldOf(int field, int what) {
        return called().fieldOf(field, what);
    }

    int load(int l, int what) {
        return called().load(l, what);
    }

    int bundle(int i) {
        return called().bundle(i);
    }

    int best(int set, int g) {
        return called().best(set, g);
    }

    int bestSet(int set, int g) {
        return called().bestSet(set, g);
    }

    long paid(int farm) {
        return called().paid(farm);
    }

    int about(int what) {
        return called().about(what);
    }
}
