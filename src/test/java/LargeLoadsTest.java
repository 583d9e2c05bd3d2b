import java.util.Arrays;
import java.util.Random;

/**
 * Promises 13, 23 and 24 on loads too large to go through them all. What FamineCode answers is not
 * worked out again but judged: it is a load; no change of it (a circle of ways, taken more or less)
 * makes one of a lower price, or of a like price with less tons on an earlier way; and it is
 * refused just where the narrowest place, looked for among all of them, lets no more through.
 */
public final class LargeLoadsTest {
    private static final int ROUNDS = 20000;
    private static final int TONS_MOST = 9999;
    private static final int WAYS = 12;

    private final Random random = new Random(11);
    private final Due due = new Due();
    private final int[] store = new int[6];
    private final int[][] ways = new int[WAYS][];
    private final int[] tons = new int[WAYS];
    private final int[] change = new int[WAYS];
    private final int[] sent = new int[6];
    private final int[] spare = new int[6];
    private int districts;
    private int goal;
    private int keep;
    private boolean better;
    private int circles;

    private FamineCode make() {
        FamineCode x = new FamineCode();
        districts = 3 + random.nextInt(4);
        int richest = random.nextBoolean() ? 99999 : 2000;
        for (int d = 0; d < districts; d++) {
            store[d] = random.nextInt(3) == 0 ? 0 : random.nextInt(richest);
            x.district(store[d], 1);
        }
        int prices = random.nextBoolean() ? 99 : 1 + random.nextInt(4);
        int caps = random.nextBoolean() ? 999 : 1 + random.nextInt(40);
        for (int w = 0; w < WAYS; w++) {
            int from = random.nextInt(districts);
            int to = (from + 1 + random.nextInt(districts - 1)) % districts;
            ways[w] = new int[] {from, to, 1 + random.nextInt(caps), 1 + random.nextInt(prices)};
            due.is("way", w, x.way(from, to, ways[w][2], ways[w][3]));
        }
        goal = random.nextInt(districts);
        keep = random.nextInt(3) == 0 ? random.nextInt(2000) : 0;
        for (int d = 0; d < districts; d++) {
            spare[d] = d == goal ? 0 : Math.max(0, store[d] - keep);
        }
        return x;
    }

    /** The least that can come into a set of districts with the goal in it. */
    private int mostThatCanCome() {
        int least = Integer.MAX_VALUE;
        for (int set = 0; set < 1 << districts; set++) {
            if ((set >> goal & 1) == 0) {
                continue;
            }
            int comes = 0;
            for (int d = 0; d < districts; d++) {
                comes += (set >> d & 1) * spare[d];
            }
            for (int[] w : ways) {
                comes += (set >> w[0] & 1) == 0 && (set >> w[1] & 1) == 1 ? w[2] : 0;
            }
            least = Math.min(least, comes);
        }
        return least;
    }

    private void judge(String name, FamineCode x, int n) {
        int price = 0;
        Arrays.fill(sent, 0);
        for (int w = 0; w < WAYS; w++) {
            tons[w] = x.loaded(goal, n, keep, w);
            due.is(name + " tons within CAP on way " + w, 1, tons[w] >= 0 && tons[w] <= ways[w][2] ? 1 : 0);
            sent[ways[w][0]] += tons[w];
            sent[ways[w][1]] -= tons[w];
            price += tons[w] * ways[w][3];
        }
        due.is(name + " price", price, x.load(goal, n, keep));
        due.is(name + " tons that come", n, -sent[goal]);
        for (int d = 0; d < districts; d++) {
            boolean fits = d == goal || (sent[d] >= 0 && sent[d] <= spare[d]);
            due.is(name + " fits in " + d, 1, fits ? 1 : 0);
        }
        better = false;
        for (int start = 0; start <= districts; start++) {
            walk(start, start, 1 << start, 0);
        }
        due.is(name + " has a better one", 0, better ? 1 : 0);
    }

    /** Goes on along each change that can be made; node number districts is what the stores can spare. */
    private void walk(int start, int node, int seen, int price) {
        for (int w = 0; w < WAYS; w++) {
            if (ways[w][0] == node && tons[w] < ways[w][2]) {
                take(start, ways[w][1], seen, price, w, 1);
            }
            if (ways[w][1] == node && tons[w] > 0) {
                take(start, ways[w][0], seen, price, w, -1);
            }
        }
        for (int d = 0; d < districts; d++) {
            if (d == goal) {
                continue;
            }
            if (node == districts && sent[d] < spare[d]) {
                take(start, d, seen, price, -1, 0);
            }
            if (node == d && sent[d] > 0) {
                take(start, districts, seen, price, -1, 0);
            }
        }
    }

    private void take(int start, int next, int seen, int price, int w, int more) {
        int added = w >= 0 ? more * ways[w][3] : 0;
        if (w >= 0) {
            change[w] += more;
        }
        if (next == start) {
            close(price + added);
        } else if (next > start && (seen >> next & 1) == 0) {
            walk(start, next, seen | 1 << next, price + added);
        }
        if (w >= 0) {
            change[w] -= more;
        }
    }

    private void close(int price) {
        circles++;
        int sign = price;
        for (int w = 0; w < WAYS && sign == 0; w++) {
            sign = change[w];
        }
        better |= sign < 0;
    }

    private void broughtIs(FamineCode x, int n) {
        int want = x.load(goal, n, keep);
        if (store[goal] + n > 99999) {
            due.is("bring too much", -1, x.bring(goal, n, keep));
            due.is("status of bring too much", 2, x.status());
            return;
        }
        due.is("bring", want, x.bring(goal, n, keep));
        for (int d = 0; d < districts; d++) {
            due.is("store " + d + " after bring", store[d] - sent[d], x.told(d, 0));
        }
    }

    private int round(int number) {
        FamineCode x = make();
        int most = Math.min(TONS_MOST, mostThatCanCome());
        due.is("round " + number + " one ton too many", -1, x.load(goal, most + 1, keep));
        if (most > 0) {
            judge("round " + number + " all tons", x, most);
            int n = 1 + random.nextInt(most);
            judge("round " + number + " tons " + n, x, n);
            broughtIs(x, n);
        }
        return most;
    }

    public static void main(String[] args) {
        LargeLoadsTest test = new LargeLoadsTest();
        int large = 0;
        for (int i = 0; i < ROUNDS && !test.due.isWrong(); i++) {
            large += test.round(i) > 100 ? 1 : 0;
        }
        System.out.println(large + " of " + ROUNDS + " let more than 100 tons through; "
            + test.circles + " changes were judged");
        test.due.is("enough large loads", 1, large > ROUNDS / 5 ? 1 : 0);
        test.due.end();
    }
}
