import java.util.ArrayList;
import java.util.List;

/**
 * A refused call changes nothing: of two mills that were made by the same steps, one is given the
 * refused call too, and both answer alike whatever they are asked, at once and in later hours.
 */
final class Refusal {
    /** So many questions are put to one object that its 512 calls are enough. */
    private static final int QUESTIONS_OF_ONE = 250;
    private static final List<Question> QUESTIONS = questions();

    private Refusal() {
    }

    interface Steps {
        void on(Mill x);
    }

    interface Question {
        long of(Mill x);
    }

    /** A refused call whose answer is false. */
    interface Refused {
        boolean by(Mill x);
    }

    static void isFalse(String call, Steps setup, Refused refused) {
        answers(call, setup, x -> refused.by(x) ? 1 : 0, 0);
    }

    static void isNone(String call, Steps setup, Question refused) {
        answers(call, setup, refused, CaneRounds.NONE);
    }

    static void answers(String call, Steps setup, Question refused, long due) {
        alike(call + ", at once:", setup, refused, due, x -> { });
        alike(call + ", as the text is taken:", setup, refused, due, Mill::text);
        alike(call + ", later:", setup, refused, due, Refusal::cutAndGoOn);
    }

    private static void alike(String call, Steps setup, Question refused, long due, Steps later) {
        for (int from = 0; from < QUESTIONS.size(); from += QUESTIONS_OF_ONE) {
            Mill with = new Mill();
            Mill without = new Mill();
            setup.on(with);
            setup.on(without);
            Due.is(call, refused.of(with), due);
            later.on(with);
            later.on(without);
            int to = Math.min(from + QUESTIONS_OF_ONE, QUESTIONS.size());
            for (int i = from; i < to; i++) {
                Question q = QUESTIONS.get(i);
                Due.is(call + " question " + i + " behind it", q.of(with), q.of(without));
            }
        }
    }

    /** The turn goes by, a new round begins, all that can be cut is cut, and two days go by. */
    private static void cutAndGoOn(Mill x) {
        for (int i = 0; i < 16; i++) {
            x.cut(i, 1);
        }
        x.pass();
        x.hours(7);
        x.farm();
        x.round(3);
        for (int i = 0; i < 16; i++) {
            x.fire(i);
            x.cut(i, 1);
        }
        x.hours(50);
    }

    private static List<Question> questions() {
        List<Question> all = new ArrayList<>();
        for (int i = 0; i <= 30; i++) {
            int what = i;
            all.add(x -> x.about(what));
        }
        for (int i = 0; i < 10; i++) {
            int farm = i;
            all.add(x -> x.paid(farm));
        }
        for (int i = 0; i < 16; i++) {
            ofFieldAndLoad(all, i);
        }
        for (int i = 0; i < 400; i += 9) {
            int ton = i;
            all.add(x -> x.bundle(ton));
        }
        for (int i = 0; i < 16; i++) {
            int set = (1 << i + 1) - 1;
            all.add(x -> x.best(set, 2));
            all.add(x -> x.bestSet(set, 9));
        }
        all.add(x -> x.fault(0));
        all.add(x -> x.fault(1));
        all.add(x -> x.tells(2, 3, 5, 7, 11));
        all.add(x -> x.tells(-1000000, 999983, 104729, -299709, 611953));
        return all;
    }

    private static void ofFieldAndLoad(List<Question> all, int number) {
        for (int i = 0; i < 9; i++) {
            int what = i;
            all.add(x -> x.fieldOf(number, what));
            all.add(x -> x.load(number, what));
        }
        for (int hour = 0; hour <= 4000; hour = hour * 3 + 1) {
            int at = hour;
            all.add(x -> x.sweet(number, at));
        }
    }
}
