import java.util.Arrays;
import java.util.Random;

/** Random runs, always the same ones: every answer of FamineCode is the one PlainCode gives. */
public final class RandomRunsTest {
    private static final int RUNS = 3000;
    private static final int CALLS = 512;

    /** Each call with the ranges of its numbers; a leading number tells how often it comes. */
    private static final String[] CALL_TABLE = {
        "3 district 0:99999 1:99", "4 people d 0:2 0:999", "4 coins d 0:2 0:99999", "1 price d 1:99",
        "1 wage 0:99", "12 sign d s w -99:99", "4 line 0:5 t -400:400 0:1 l", "1 end m", "8 week",
        "3 way d d 1:999 1:99", "3 work d 1:999 0:99", "4 bring d n 0:99999", "1 image", "1 back",
        "4 told d 0:14", "8 known d s w w", "5 holds m d w w", "5 open d w w", "5 why 0:5 d w w",
        "3 was d w", "3 lineTold m 0:8", "4 load d n k", "5 loaded d n k 0:11",
        "4 fewest d n 0:5", "4 beside l 1:20 0:4", "3 count 0:10", "5 act m 0:3 i", "4 trace 0:12",
        "6 sheet 0:3 -1:2 0:40", "8 cell 0:3 f -1000:1000", "10 signs d s 0:3 0:2 f f",
        "12 forge 0:6 -100:100 -100:100", "0 status"
    };

    private static final class Calls {
        final String[] names = new String[CALL_TABLE.length];
        final String[][] ranges = new String[CALL_TABLE.length][];
        final int[] weights = new int[CALL_TABLE.length];

        Calls() {
            for (int i = 0; i < names.length; i++) {
                String[] words = CALL_TABLE[i].split(" ");
                weights[i] = Integer.parseInt(words[0]);
                names[i] = words[1];
                ranges[i] = Arrays.copyOfRange(words, 2, words.length);
            }
        }

        /** Each run likes some calls more than others, so that every limit is reached by some. */
        int[] weightsOf(Random random) {
            int[] row = weights.clone();
            for (int i = 0; i < row.length; i++) {
                int liking = random.nextInt(12);
                row[i] *= liking == 0 ? 0 : liking == 1 ? 8 : liking == 2 ? 40 : 2;
            }
            row[0] = Math.max(row[0], 6);
            row[6] = Math.max(row[6], 4);
            return row;
        }

        int pick(Random random, int[] row) {
            int at = random.nextInt(Arrays.stream(row).sum());
            for (int i = 0; i < row.length; i++) {
                at -= row[i];
                if (at < 0) {
                    return i;
                }
            }
            return 0;
        }
    }

    private static int number(Random random, String range, PlainCode plain, int wildness) {
        if (random.nextInt(400) < wildness) {
            int[] odd = {Integer.MIN_VALUE, Integer.MAX_VALUE, -1, -2, -1000, 0, 1, 7, 61, 100, 1000, 100000};
            return odd[random.nextInt(odd.length)];
        }
        int slip = random.nextInt(300) < wildness ? 1 : 0;
        switch (range) {
            case "d": return random.nextInt(Math.max(1, plain.world.districts.size() + 2 * slip)) - slip;
            case "l": return random.nextInt(plain.world.lines.size() + 1 + slip) - 1;
            case "m": return random.nextInt(Math.max(1, plain.world.lines.size() + 2 * slip)) - slip;
            case "w": return Math.max(0, plain.world.week + slip - random.nextInt(6) * random.nextInt(2));
            case "t": return random.nextInt(4) + 4 * (1 + random.nextInt(4 + slip)) + 32 * random.nextInt(3 + slip);
            case "s": return random.nextInt(4 + slip) & (random.nextInt(3) == 0 ? 7 : 1);
            case "f": return random.nextInt(random.nextInt(3) == 0 ? 21 : 4);
            case "n": return slip == 1 ? 10000 : random.nextInt(random.nextInt(9) == 0 ? 10000 : 800);
            case "k": return slip == 1 ? 100000 : random.nextInt(random.nextInt(3) == 0 ? 100000 : 10);
            case "i": return random.nextInt(3) == 0 ? random.nextInt() : random.nextInt(41) - 20;
            default:
        }
        String[] ends = range.split(":");
        int least = Integer.parseInt(ends[0]) - slip;
        int most = Integer.parseInt(ends[1]) + slip;
        switch (random.nextInt(6)) {
            case 0: return least;
            case 1: return most;
            case 2: return least + random.nextInt(Math.min(10, most - least + 1));
            case 3: return least + random.nextInt(Math.min(400, most - least + 1));
            default: return least + random.nextInt(most - least + 1);
        }
    }

    private static int ask(FamineCode x, String name, int[] a) {
        switch (name) {
            case "district": return x.district(a[0], a[1]);
            case "people": return x.people(a[0], a[1], a[2]);
            case "coins": return x.coins(a[0], a[1], a[2]);
            case "price": return x.price(a[0], a[1]);
            case "wage": return x.wage(a[0]);
            case "sign": return x.sign(a[0], a[1], a[2], a[3]);
            case "line": return x.line(a[0], a[1], a[2], a[3] == 1, a[4]);
            case "end": return x.end(a[0]);
            case "week": return x.week();
            case "way": return x.way(a[0], a[1], a[2], a[3]);
            case "work": return x.work(a[0], a[1], a[2]);
            case "bring": return x.bring(a[0], a[1], a[2]);
            case "image": return x.image();
            case "back": return x.back();
            case "act": return x.act(a[0], a[1], a[2]);
            case "sheet": return x.sheet(a[0], a[1], a[2]);
            case "cell": return x.cell(a[0], a[1], a[2]);
            case "signs": return x.signs(a[0], a[1], a[2], a[3], a[4], a[5]);
            case "forge": return x.forge(a[0], a[1], a[2]);
            default: return question(x, name, a);
        }
    }

    private static int question(FamineCode x, String name, int[] a) {
        switch (name) {
            case "told": return x.told(a[0], a[1]);
            case "known": return x.known(a[0], a[1], a[2], a[3]);
            case "holds": return x.holds(a[0], a[1], a[2], a[3]);
            case "open": return x.open(a[0], a[1], a[2]);
            case "why": return x.why(a[0], a[1], a[2], a[3]);
            case "was": return x.was(a[0], a[1]);
            case "lineTold": return x.lineTold(a[0], a[1]);
            case "load": return x.load(a[0], a[1], a[2]);
            case "loaded": return x.loaded(a[0], a[1], a[2], a[3]);
            case "fewest": return x.fewest(a[0], a[1], a[2]);
            case "beside": return x.beside(a[0], a[1], a[2]);
            case "count": return x.count(a[0]);
            case "trace": return x.trace(a[0]);
            default: return x.status();
        }
    }

    private static void run(int seed, Calls calls, Due due, int[] statuses) {
        Random random = new Random(seed);
        FamineCode x = new FamineCode();
        PlainCode plain = new PlainCode();
        int[] weights = calls.weightsOf(random);
        int wildness = random.nextInt(40);
        int shown = 0;
        for (int c = 0; c < CALLS; c++) {
            int call = c < 6 ? 0 : calls.pick(random, weights);
            int[] a = new int[calls.ranges[call].length];
            for (int i = 0; i < a.length; i++) {
                a[i] = number(random, calls.ranges[call][i], plain, c < 6 ? 0 : wildness);
            }
            if (c < 6 && random.nextInt(3) == 0) {
                continue;
            }
            String name = calls.names[call];
            String told = "seed " + seed + " call " + c + " " + name + Arrays.toString(a);
            due.is(told, plain.call(name, a), ask(x, name, a));
            due.is(told + " status", plain.status, x.status());
            statuses[plain.status]++;
            if (c % 16 == 15 || c == CALLS - 1) {
                shown = compareAll(told, x, plain, due);
            }
            if (due.isWrong()) {
                return;
            }
        }
        due.is("seed " + seed + " looked at all", 1, shown);
    }

    /** All that can be asked without a choice, so that nothing changes unseen. */
    private static int compareAll(String told, FamineCode x, PlainCode plain, Due due) {
        for (int d = 0; d < 6; d++) {
            for (int what = 0; what < 15; what++) {
                due.is(told + " then told " + d + " " + what, plain.call("told", d, what), x.told(d, what));
            }
            for (int w = 0; w < 60; w += 1 + plain.world.week / 6) {
                due.is(told + " then was " + d + " " + w, plain.call("was", d, w), x.was(d, w));
            }
        }
        for (int l = 0; l < 12; l++) {
            for (int what = 0; what < 9; what++) {
                due.is(told + " then lineTold " + l + " " + what, plain.call("lineTold", l, what), x.lineTold(l, what));
            }
        }
        for (int what = 0; what < 11; what++) {
            due.is(told + " then count " + what, plain.call("count", what), x.count(what));
        }
        return 1;
    }

    public static void main(String[] args) {
        Due due = new Due();
        Calls calls = new Calls();
        int[] statuses = new int[16];
        for (int seed = 1; seed <= RUNS && !due.isWrong(); seed++) {
            run(seed, calls, due, statuses);
        }
        System.out.println("calls by status: " + Arrays.toString(statuses));
        int[] all = {0, 1, 2, 3, 10, 11, 12, 13, 14, 15};
        for (int status : all) {
            due.is("some call with status " + status, 1, statuses[status] > 0 ? 1 : 0);
        }
        due.end();
    }
}
