import java.util.Arrays;
import java.util.Random;

/** Promises 13, 23 and 24 on small loads: all tons on all ways are gone through, in their order. */
public final class LoadsTest {
    private static final int ROUNDS = 40000;
    /** Every so many rounds all 12 ways are there, each for 1 ton. */
    private static final int ALL_WAYS = 10;
    private static final int TONS_MOST = 16;

    /** Loads in which a way is taken, given up and taken again: stores, then from, to, cap and price. */
    private static final int[][][] HARD = {
        {{1, 1, 0, 1, 2, 0}, {1, 3, 2, 8}, {1, 5, 1, 2}, {3, 4, 1, 2}, {3, 2, 1, 8}, {2, 5, 2, 3}, {1, 4, 1, 1},
            {2, 0, 2, 7}, {1, 2, 1, 10}, {1, 5, 1, 3}, {2, 0, 1, 7}, {4, 3, 2, 9}, {3, 0, 2, 1}},
        {{2, 2, 1, 1, 2}, {0, 3, 1, 3}, {1, 3, 1, 5}, {2, 3, 2, 8}, {1, 0, 1, 7}, {2, 0, 1, 4}, {0, 4, 2, 6},
            {3, 4, 2, 2}, {2, 4, 1, 1}, {3, 4, 1, 8}, {0, 2, 2, 2}},
        {{2, 0, 1, 2}, {3, 2, 2, 4}, {2, 3, 2, 2}, {1, 3, 2, 5}, {0, 3, 1, 17}, {1, 3, 2, 12}, {0, 1, 1, 13},
            {1, 0, 2, 9}, {1, 2, 1, 2}, {1, 2, 1, 10}, {1, 0, 2, 6}, {2, 3, 1, 1}, {3, 1, 1, 1}},
        {{1, 2, 2, 0, 2, 2}, {2, 4, 2, 5}, {3, 1, 2, 2}, {4, 3, 2, 7}, {2, 0, 1, 8}, {3, 4, 2, 7}, {5, 2, 1, 9},
            {3, 1, 2, 8}, {3, 4, 2, 4}, {2, 0, 2, 6}, {0, 2, 2, 1}, {0, 1, 2, 3}, {2, 3, 2, 2}}
    };

    private final Random random = new Random(7);
    private final Due due = new Due();
    private final int[] store = new int[6];
    private final int[][] ways = new int[12][];
    private final int[][] best = new int[TONS_MOST + 1][];
    private final int[] bestPrice = new int[TONS_MOST + 1];
    private int districts;
    private int count;

    /** Finds the load for every n at once. */
    private void search(int[] tons, int w, int goal, int keep) {
        if (w < count) {
            for (tons[w] = 0; tons[w] <= ways[w][2]; tons[w]++) {
                search(tons, w + 1, goal, keep);
            }
            return;
        }
        int[] sent = new int[districts];
        int price = 0;
        for (int i = 0; i < count; i++) {
            sent[ways[i][0]] += tons[i];
            sent[ways[i][1]] -= tons[i];
            price += tons[i] * ways[i][3];
        }
        int n = -sent[goal];
        boolean fits = n > 0;
        for (int d = 0; d < districts; d++) {
            fits &= d == goal || (sent[d] >= 0 && sent[d] <= Math.max(0, store[d] - keep));
        }
        // Tons go up from the first way on, so of like prices the first one found is the load.
        if (fits && (best[n] == null || price < bestPrice[n])) {
            best[n] = tons.clone();
            bestPrice[n] = price;
        }
    }

    private FamineCode make(boolean allWays) {
        FamineCode x = new FamineCode();
        districts = 2 + random.nextInt(5);
        for (int d = 0; d < districts; d++) {
            store[d] = random.nextInt(4);
            x.district(store[d], 1);
        }
        int prices = 2 + random.nextInt(6);
        count = allWays ? 12 : 4 + random.nextInt(5);
        for (int w = 0; w < count; w++) {
            int from = random.nextInt(districts);
            int to = (from + 1 + random.nextInt(districts - 1)) % districts;
            ways[w] = new int[] {from, to, allWays ? 1 : 1 + random.nextInt(2), 1 + random.nextInt(prices)};
            due.is("way", w, x.way(from, to, ways[w][2], ways[w][3]));
        }
        return x;
    }

    private void hard(int[][] told, int goal) {
        FamineCode x = new FamineCode();
        districts = told[0].length;
        count = told.length - 1;
        for (int d = 0; d < districts; d++) {
            store[d] = told[0][d];
            x.district(store[d], 1);
        }
        for (int w = 0; w < count; w++) {
            ways[w] = told[1 + w];
            x.way(ways[w][0], ways[w][1], ways[w][2], ways[w][3]);
        }
        compare("hard", x, goal, 0);
    }

    private int round(int number) {
        FamineCode x = make(number % ALL_WAYS == 0);
        int goal = random.nextInt(districts);
        int keep = random.nextInt(2);
        int most = compare("round " + number, x, goal, keep);
        due.is("round " + number + " no way", -1, x.loaded(goal, 1, keep, count));
        broughtIs(x, goal, 1 + random.nextInt(most + 1), keep);
        return most;
    }

    /** Asks every n, with every load gone through; answers how many tons can come at most. */
    private int compare(String name, FamineCode x, int goal, int keep) {
        Arrays.fill(best, null);
        search(new int[count], 0, goal, keep);
        int most = 0;
        for (int n = 1; n <= TONS_MOST; n++) {
            String told = name + " n " + n;
            due.is(told + " load", best[n] == null ? -1 : bestPrice[n], x.load(goal, n, keep));
            for (int w = 0; w < count; w++) {
                due.is(told + " way " + w, best[n] == null ? -1 : best[n][w], x.loaded(goal, n, keep, w));
            }
            most = best[n] == null ? most : n;
        }
        return most;
    }

    private void broughtIs(FamineCode x, int goal, int n, int keep) {
        due.is("bring", best[n] == null ? -1 : bestPrice[n], x.bring(goal, n, keep));
        due.is("status of bring", best[n] == null ? 3 : 0, x.status());
        for (int w = 0; best[n] != null && w < count; w++) {
            store[ways[w][0]] -= best[n][w];
            store[ways[w][1]] += best[n][w];
        }
        for (int d = 0; d < districts; d++) {
            due.is("store " + d + " after bring", store[d], x.told(d, 0));
        }
    }

    public static void main(String[] args) {
        LoadsTest test = new LoadsTest();
        for (int[][] told : HARD) {
            for (int goal = 0; goal < told[0].length; goal++) {
                test.hard(told, goal);
            }
        }
        int large = 0;
        for (int i = 0; i < ROUNDS && !test.due.isWrong(); i++) {
            large += test.round(i) > 2 ? 1 : 0;
        }
        System.out.println(large + " of " + ROUNDS + " had a load of more than 2 tons");
        test.due.is("enough large loads", 1, large > ROUNDS / 8 ? 1 : 0);
        test.due.end();
    }
}
