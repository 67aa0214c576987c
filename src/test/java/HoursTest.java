import java.util.ArrayList;
import java.util.Collections;
import java.util.List;
import java.util.Random;

/** Random runs of calls, each answered by a second, plain model of the mill too. */
public final class HoursTest {
    private static final int NONE = CaneRounds.NONE;
    private static final int RUNS = 6000;
    private static final int ASKED_ON_THE_WAY = 9;

    private static final class Plot {
        int farm;
        int tons;
        int km;
        int top;
        int ripe;
        int fades;
        int state;
        int gangs;
        int done;
        int fireAt = NONE;
        int burntSweet;
        int load = NONE;

        int sweet(int hour) {
            if (fireAt != NONE) {
                return burntSweet;
            }
            int away = hour > ripe ? hour - ripe : ripe - hour;
            int loss = 0;
            while (away >= fades) {
                away -= fades;
                loss++;
            }
            return top > loss ? top - loss : 0;
        }
    }

    private static final class Cargo {
        int plot;
        int cutAt;
        int sweet;
        int dies;
        int atMill = NONE;
        int waiting;
        int crushed;
        int lost;
        int overAt = NONE;
        long pay = -2000000000L;
    }

    /** An answer that is due, asked only if its turn comes: an object has but 512 calls. */
    private record Check(String call, Refusal.Question question, long due) {
    }

    /** The mill as the document tells it, ton by ton, with a clock for each truck. */
    private static final class Model {
        int gangs = 3;
        int rate = 5;
        int crush = 20;
        int[] truckFree = new int[3];
        int clock = 0;
        int farms = 0;
        long[] paid = new long[10];
        List<Plot> plots = new ArrayList<>();
        List<Cargo> cargos = new ArrayList<>();
        List<Integer> bundles = new ArrayList<>();
        List<Integer> order = new ArrayList<>();
        boolean[] settled = new boolean[10];
        boolean[] rain = new boolean[4001];
        boolean[] stop = new boolean[4001];
        int told = 0;
        int mean = NONE;

        int turn() {
            for (int farm : order) {
                if (!settled[farm]) {
                    return farm;
                }
            }
            return NONE;
        }

        int round(int seed) {
            order.clear();
            for (int i = 0; i < farms; i++) {
                order.add(i);
                settled[i] = false;
            }
            int s = seed;
            for (int i = 0; i <= farms - 2; i++) {
                s = s * 1103515245 + 12345;
                Collections.swap(order, i, i + (s >>> 16) % (farms - i));
            }
            return turn();
        }

        int freeGangs() {
            return gangs - plots.stream().mapToInt(p -> p.gangs).sum();
        }

        int freeTrucks() {
            int free = 0;
            for (int at : truckFree) {
                free += at <= clock ? 1 : 0;
            }
            return free;
        }

        boolean cut(int plot, int n) {
            if (plot < 0 || plot >= plots.size() || n < 1 || n > 9 || n > freeGangs()) {
                return false;
            }
            Plot p = plots.get(plot);
            boolean inTurn = turn() == p.farm;
            if (p.state != 0 || !(inTurn || p.fireAt != NONE)) {
                return false;
            }
            if (inTurn) {
                settled[p.farm] = true;
            }
            p.state = 1;
            p.gangs = n;
            return true;
        }

        boolean weather(boolean stops, int from, int to) {
            if (from < clock || to <= from || to > 4000 || told == 20) {
                return false;
            }
            told++;
            for (int i = from; i < to; i++) {
                (stops ? stop : rain)[i] = true;
            }
            return true;
        }

        boolean fire(int plot) {
            if (plot < 0 || plot >= plots.size()) {
                return false;
            }
            Plot p = plots.get(plot);
            if (p.fireAt != NONE || p.state != 0) {
                return false;
            }
            p.burntSweet = Math.max(0, p.sweet(clock) - 2);
            p.fireAt = clock;
            return true;
        }

        void hour() {
            if (!rain[clock]) {
                cutting();
            }
            for (Cargo c : cargos) {
                send(c);
            }
            for (int ton = 0; ton < crush && !stop[clock]; ton++) {
                crushTon();
            }
            losses();
            for (Plot p : plots) {
                if (p.fireAt != NONE && p.state == 0 && clock - p.fireAt == 11) {
                    p.state = 3;
                }
            }
            clock++;
            if (clock % 24 == 0) {
                pay();
            }
        }

        void cutting() {
            for (int i = 0; i < plots.size(); i++) {
                Plot p = plots.get(i);
                if (p.state != 1) {
                    continue;
                }
                p.done = Math.min(p.tons, p.done + rate * p.gangs);
                if (p.done == p.tons) {
                    p.state = 2;
                    p.gangs = 0;
                    p.load = cargos.size();
                    Cargo c = new Cargo();
                    c.plot = i;
                    c.cutAt = clock + 1;
                    c.sweet = p.sweet(clock + 1);
                    c.dies = clock + 1 + (p.fireAt != NONE ? 12 : 24);
                    c.waiting = p.tons;
                    cargos.add(c);
                }
            }
        }

        void send(Cargo c) {
            for (int i = 0; i < truckFree.length && c.atMill == NONE && c.waiting > 0; i++) {
                if (truckFree[i] <= clock) {
                    int way = Math.max(1, (plots.get(c.plot).km + 9) / 10);
                    c.atMill = clock + 1 + way;
                    truckFree[i] = clock + 1 + 2 * way;
                }
            }
        }

        void crushTon() {
            Cargo first = null;
            for (Cargo c : cargos) {
                boolean there = c.waiting > 0 && c.atMill != NONE && c.atMill <= clock;
                if (there && (first == null || c.dies < first.dies)) {
                    first = c;
                }
            }
            if (first != null) {
                first.waiting--;
                first.crushed++;
                bundles.add(first.plot);
            }
        }

        void losses() {
            for (Cargo c : cargos) {
                if (c.dies == clock + 1) {
                    c.lost = c.waiting;
                    c.waiting = 0;
                }
                if (c.waiting == 0 && c.overAt == NONE) {
                    c.overAt = clock + 1;
                }
            }
        }

        /** The text that run() feeds: t*s-m*3+b*100-h. */
        void pay() {
            int tons = 0;
            int sum = 0;
            for (Cargo c : cargos) {
                if (c.overAt > clock - 24) {
                    tons += c.crushed;
                    sum += c.crushed * c.sweet;
                }
            }
            mean = tons == 0 ? 0 : sum / tons;
            for (Cargo c : cargos) {
                if (c.overAt > clock - 24) {
                    Plot p = plots.get(c.plot);
                    c.pay = c.crushed * c.sweet - mean * 3 + (p.fireAt != NONE ? 100 : 0) - (c.overAt - c.cutAt);
                    paid[p.farm] += c.pay;
                }
            }
        }
    }

    public static void main(String[] args) {
        Random random = new Random(20261118);
        for (int i = 0; i < RUNS; i++) {
            run(i, random);
        }
        Due.finish();
    }

    private static void run(int number, Random random) {
        Mill x = new Mill();
        Model m = new Model();
        Due.is("text", Due.text(x, "t*s-m*3+b*100-h"), true);
        if (random.nextBoolean()) {
            m.gangs = 1 + random.nextInt(9);
            m.rate = 1 + random.nextInt(20);
            m.truckFree = new int[1 + random.nextInt(random.nextBoolean() ? 2 : 9)];
            m.crush = 1 + random.nextInt(random.nextBoolean() ? 10 : 100);
            Due.is("rules", x.rules(m.gangs, m.rate, m.truckFree.length, m.crush), true);
        }
        m.farms = 1 + random.nextInt(10);
        for (int i = 0; i < m.farms; i++) {
            x.farm();
        }
        int steps = 20 + random.nextInt(60);
        for (int i = 0; i < steps && x.callsLeft() > 300; i++) {
            step("run " + number + " step " + i, x, m, random);
        }
        ask("run " + number, x, m, random, x.callsLeft());
    }

    private static void step(String where, Mill x, Model m, Random random) {
        switch (random.nextInt(9)) {
            case 0: case 1:
                addPlot(x, m, random);
                break;
            case 2: {
                int seed = random.nextInt();
                Due.is(where + " round", x.round(seed), m.round(seed));
                break;
            }
            case 3: {
                if (m.turn() != NONE) {
                    m.settled[m.turn()] = true;
                }
                Due.is(where + " pass", x.pass(), m.turn());
                break;
            }
            case 4: case 5:
                cutSomething(where, x, m, random);
                break;
            case 6: {
                int plot = random.nextInt(17) - 1;
                Due.is(where + " fire", x.fire(plot), m.fire(plot));
                break;
            }
            case 7:
                addWeather(x, m, random);
                break;
            default: {
                int hours = 1 + random.nextInt(random.nextInt(4) == 0 ? 50 : 6);
                for (int i = 0; i < hours; i++) {
                    m.hour();
                }
                Due.is(where + " hours", x.hours(hours), m.clock);
                ask(where, x, m, random, ASKED_ON_THE_WAY);
                break;
            }
        }
    }

    private static void addPlot(Mill x, Model m, Random random) {
        Plot p = new Plot();
        p.farm = random.nextInt(m.farms);
        p.tons = 1 + random.nextInt(200);
        p.km = random.nextInt(61);
        p.top = 1 + random.nextInt(30);
        p.ripe = random.nextInt(300);
        p.fades = 1 + random.nextInt(random.nextBoolean() ? 10 : 100);
        int due = m.plots.size() == 16 ? NONE : m.plots.size();
        Due.is("field", x.field(p.farm, p.tons, p.km, p.top, p.ripe, p.fades), due);
        if (due != NONE) {
            m.plots.add(p);
        }
    }

    private static void cutSomething(String where, Mill x, Model m, Random random) {
        int plot = random.nextInt(17) - 1;
        for (int i = 0; i < m.plots.size() && random.nextInt(4) != 0; i++) {
            if (m.plots.get(i).state == 0 && m.plots.get(i).farm == m.turn()) {
                plot = i;
            }
        }
        int gangs = random.nextInt(1 + Math.max(1, m.freeGangs() + random.nextInt(2)));
        Due.is(where + " cut", x.cut(plot, gangs), m.cut(plot, gangs));
    }

    private static void addWeather(Mill x, Model m, Random random) {
        boolean stops = random.nextBoolean();
        int from = m.clock - 2 + random.nextInt(30);
        int to = from + random.nextInt(8);
        Due.is("weather", x.weather(stops, from, to), m.weather(stops, from, to));
    }

    private static void ask(String where, Mill x, Model m, Random random, int most) {
        List<Check> checks = new ArrayList<>();
        checkWhole(checks, m);
        checkPlots(checks, m);
        checkCargos(checks, m);
        Collections.shuffle(checks, random);
        for (int i = 0; i < most && i < checks.size(); i++) {
            Check c = checks.get(i);
            Due.is(where + " " + c.call(), c.question().of(x), c.due());
        }
    }

    private static void checkWhole(List<Check> checks, Model m) {
        int crushed = m.bundles.size();
        int lost = m.cargos.stream().mapToInt(c -> c.lost).sum();
        int[] about = {m.clock, m.farms, m.plots.size(), m.cargos.size(), m.freeGangs(), m.freeTrucks(),
            m.turn(), crushed, lost, m.mean, 0};
        for (int i = 0; i < about.length; i++) {
            int what = i;
            checks.add(new Check("about(" + what + ")", x -> x.about(what), about[what]));
        }
        for (int i = 0; i < m.farms; i++) {
            int farm = i;
            checks.add(new Check("paid(" + farm + ")", x -> x.paid(farm), m.paid[farm]));
            int due = farm < m.order.size() ? m.order.get(farm) : NONE;
            checks.add(new Check("about(20 + " + farm + ")", x -> x.about(20 + farm), due));
        }
        for (int i = 0; i <= crushed; i += i < crushed - 1 ? Math.max(1, crushed / 60) : 1) {
            int ton = i;
            int due = ton < crushed ? m.bundles.get(ton) : NONE;
            checks.add(new Check("bundle(" + ton + ")", x -> x.bundle(ton), due));
        }
    }

    private static void checkPlots(List<Check> checks, Model m) {
        for (int i = 0; i < m.plots.size(); i++) {
            int plot = i;
            Plot p = m.plots.get(plot);
            int[] due = {p.farm, p.tons, p.state, p.done, p.fireAt != NONE ? 1 : 0, p.gangs, p.load};
            for (int j = 0; j < due.length; j++) {
                int what = j;
                checks.add(new Check("fieldOf(" + plot + ", " + what + ")", x -> x.fieldOf(plot, what), due[what]));
            }
            int clock = m.clock;
            checks.add(new Check("sweet(" + plot + ", " + clock + ")", x -> x.sweet(plot, clock), p.sweet(clock)));
        }
    }

    private static void checkCargos(List<Check> checks, Model m) {
        for (int i = 0; i < m.cargos.size(); i++) {
            int cargo = i;
            Cargo c = m.cargos.get(cargo);
            long[] due = {c.plot, c.cutAt, c.sweet, c.dies, c.atMill, c.crushed, c.lost,
                c.overAt != NONE ? 1 : 0, c.pay};
            for (int j = 0; j < due.length; j++) {
                int what = j;
                checks.add(new Check("load(" + cargo + ", " + what + ")", x -> x.load(cargo, what), due[what]));
            }
        }
    }
}
