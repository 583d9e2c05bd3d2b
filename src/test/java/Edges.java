import java.util.ArrayList;
import java.util.List;

/**
 * Asks a call at the edges of what the document allows. A refused call is made on an object, and a
 * second object of the same calls does without it: all that can be asked of the two must be alike.
 */
final class Edges {
    interface Call {
        int on(FamineCode x);
    }

    interface CallWith {
        int on(FamineCode x, int n);
    }

    private interface Look {
        void at(FamineCode x, List<Integer> answers);
    }

    /** Each look on objects of its own: so none of them gets more than 512 calls. */
    private static final Look[] QUESTIONS = {
        Edges::facts, Edges::lines, Edges::known, Edges::judged, Edges::carts, Edges::dreams
    };
    private static final Look[] CALLS = {Edges::sheets, Edges::image};
    private static final int ANSWERS_MOST = 250;

    private final Due due;
    private String sentence = "";
    private int row;

    Edges(Due due) {
        this.due = due;
    }

    /** The sentence of the document that the next answers are due by. */
    void of(String name) {
        sentence = name;
        row = 0;
    }

    private String told() {
        return sentence + ", row " + row;
    }

    void is(long want, long got) {
        row++;
        due.is(told(), want, got);
    }

    /** A call that is done: this is its answer, and its status is 0. */
    void done(FamineCode x, long want, int got) {
        row++;
        due.is(told(), want, got);
        due.is(told() + " status", 0, x.status());
    }

    /** A call that is done, after one that was refused, so that status 0 comes from this one. */
    void done(Worlds.Setup setup, long want, Call call) {
        FamineCode x = Worlds.made(setup);
        x.wage(-1);
        due.is(told() + " status before", 1, x.status());
        done(x, want, call.on(x));
    }

    void refused(Worlds.Setup setup, int status, Call call) {
        row++;
        for (Look look : QUESTIONS) {
            FamineCode x = refusedUnseen(setup, status, call, look);
            due.is(told() + " status after the questions", status, x.status());
        }
        for (Look look : CALLS) {
            refusedUnseen(setup, status, call, look);
        }
    }

    /** All that questions can ask of objects of the two setups is alike. */
    void alike(Worlds.Setup one, Worlds.Setup other) {
        alike(one, other, QUESTIONS);
    }

    /** So are the sheets, the image and how often it can be gone back. */
    void alikeUnseen(Worlds.Setup one, Worlds.Setup other) {
        alike(one, other, CALLS);
    }

    private void alike(Worlds.Setup one, Worlds.Setup other, Look[] looks) {
        for (int i = 0; i < looks.length; i++) {
            List<Integer> want = new ArrayList<>();
            List<Integer> got = new ArrayList<>();
            looks[i].at(Worlds.made(one), want);
            looks[i].at(Worlds.made(other), got);
            row++;
            due.is(told() + " is alike, look " + i, 1, want.equals(got) ? 1 : 0);
        }
    }

    private FamineCode refusedUnseen(Worlds.Setup setup, int status, Call call, Look look) {
        FamineCode without = Worlds.made(setup);
        FamineCode with = Worlds.made(setup);
        due.is(told() + " status before", 0, with.status());
        due.is(told(), -1, call.on(with));
        due.is(told() + " status", status, with.status());
        List<Integer> want = new ArrayList<>();
        List<Integer> got = new ArrayList<>();
        look.at(without, want);
        look.at(with, got);
        due.is(told() + " answers looked at", 1, want.size() <= ANSWERS_MOST ? 1 : 0);
        due.is(told() + " changes nothing", 1, want.equals(got) ? 1 : 0);
        return with;
    }

    /** A number of a call: the least and the most are done, those beside them are refused (1). */
    void range(Worlds.Setup setup, int least, int most, CallWith call) {
        inside(setup, least, call);
        inside(setup, most, call);
        outside(setup, least - 1, call);
        outside(setup, most + 1, call);
        outside(setup, Integer.MIN_VALUE, call);
        outside(setup, Integer.MAX_VALUE, call);
    }

    void inside(Worlds.Setup setup, int n, CallWith call) {
        row++;
        FamineCode x = Worlds.made(setup);
        x.wage(-1);
        call.on(x, n);
        due.is(told() + " with " + n + " status", 0, x.status());
    }

    void outside(Worlds.Setup setup, int n, CallWith call) {
        refused(setup, 1, x -> call.on(x, n));
    }

    /** A number of a question: the least and the most have an answer, those beside them have none. */
    void asked(Worlds.Setup setup, int least, int most, int none, CallWith call) {
        FamineCode x = Worlds.made(setup);
        row++;
        due.is(told() + " with " + least + " has an answer", 1, call.on(x, least) != none ? 1 : 0);
        due.is(told() + " with " + most + " has an answer", 1, call.on(x, most) != none ? 1 : 0);
        due.is(told() + " with " + (least - 1), none, call.on(x, least - 1));
        due.is(told() + " with " + (most + 1), none, call.on(x, most + 1));
        due.is(told() + " with the least int", none, call.on(x, Integer.MIN_VALUE));
        due.is(told() + " with the greatest int", none, call.on(x, Integer.MAX_VALUE));
        due.is(told() + " leaves the status", 0, x.status());
    }

    private static void facts(FamineCode x, List<Integer> answers) {
        for (int what = 0; what <= 10; what++) {
            answers.add(x.count(what));
        }
        for (int d = 0; d < 6; d++) {
            for (int what = 0; what < 15; what++) {
                answers.add(x.told(d, what));
            }
        }
        for (int i = 0; i < 13; i++) {
            answers.add(x.trace(i));
        }
    }

    private static void lines(FamineCode x, List<Integer> answers) {
        for (int l = 0; l < 12; l++) {
            for (int what = 0; what < 9; what++) {
                answers.add(x.lineTold(l, what));
            }
        }
        int week = x.count(1);
        int[] weeks = {0, 1, week - 2, week - 1, week};
        for (int d = 0; d < 6; d++) {
            for (int w : weeks) {
                answers.add(x.was(d, w));
            }
        }
    }

    private static void known(FamineCode x, List<Integer> answers) {
        int week = x.count(1);
        int[] weeks = {0, Math.max(0, week - 1), week};
        int[] ats = {0, week, 60};
        for (int d = 0; d < 6; d++) {
            for (int sort = 0; sort < 4; sort++) {
                for (int w : weeks) {
                    for (int at : ats) {
                        answers.add(x.known(d, sort, w, at));
                    }
                }
            }
        }
    }

    private static void judged(FamineCode x, List<Integer> answers) {
        int week = x.count(1);
        for (int d = 0; d < 6; d++) {
            for (int l = 0; l < 12; l++) {
                answers.add(x.holds(l, d, week, 60));
            }
            for (int kind = 0; kind < 6; kind++) {
                answers.add(x.why(kind, d, week, week));
                answers.add(x.why(kind, d, 0, 60));
            }
            answers.add(x.open(d, 0, 0));
            answers.add(x.open(d, week, week));
            answers.add(x.open(d, 60, 60));
        }
    }

    private static void carts(FamineCode x, List<Integer> answers) {
        for (int d = 0; d < 6; d++) {
            for (int n = 1; n <= 1001; n += 25 + 3 * n) {
                answers.add(x.load(d, n, 0));
                answers.add(x.load(d, n, 50));
            }
            for (int w = 0; w < 12; w++) {
                answers.add(x.loaded(d, 10, 0, w));
            }
            for (int r = 0; r <= 5; r++) {
                answers.add(x.fewest(d, 11, r));
                answers.add(x.fewest(d, 35, r));
            }
        }
    }

    private static void dreams(FamineCode x, List<Integer> answers) {
        for (int l = -1; l < 12; l++) {
            for (int what = 0; what < 5; what++) {
                answers.add(x.beside(l, 1, what));
                answers.add(x.beside(l, 4, what));
            }
        }
    }

    /** What the sheets hold is seen by what the host takes and by the signs told from them. */
    private static void sheets(FamineCode x, List<Integer> answers) {
        for (int s = 0; s < 4; s++) {
            for (int n = 0; n < 6; n++) {
                answers.add(x.forge(2, n, s));
                answers.add(x.status());
                answers.add(x.forge(3, n, s));
                answers.add(x.status());
            }
            for (int of = 0; of < 3; of++) {
                for (int i = 0; i < 5; i++) {
                    answers.add(x.signs(0, 3, s, of, i, 1));
                    answers.add(x.known(0, 3, x.count(1), 60));
                }
            }
        }
    }

    /** What the image holds, and how often it can still be gone back. */
    private static void image(FamineCode x, List<Integer> answers) {
        answers.add(x.back());
        answers.add(x.status());
        facts(x, answers);
        for (int sort = 0; sort < 4; sort++) {
            answers.add(x.known(0, sort, 0, 60));
        }
        for (int l = 0; l < 12; l++) {
            answers.add(x.lineTold(l, 0));
            answers.add(x.lineTold(l, 8));
        }
        for (int i = 0; i < 10; i++) {
            answers.add(x.back());
            answers.add(x.status());
        }
    }
}
