import java.util.Random;

/** Promises 13, 23 and 24 on small loads: all tons on all ways are gone through, in their order. */
public final class LoadsTest {
    private static final int ROUNDS = 4000;

    private final Random random = new Random(7);
    private final Due due = new Due();
    private final int[] store = new int[6];
    private final int[][] ways = new int[6][];
    private int districts;
    private int count;
    private int[] best;
    private int bestPrice;

    private void search(int[] tons, int w, int goal, int n, int keep) {
        if (w < count) {
            for (tons[w] = 0; tons[w] <= ways[w][2]; tons[w]++) {
                search(tons, w + 1, goal, n, keep);
            }
            return;
        }
        int[] sent = new int[districts];
        int price = 0;
        for (int i = 0; i < count; i++) {
            sent[ways[i][0]] += tons[i];
            sent[ways[i][1]] -= tons[i];
            price += tons[i] * ways[i][3];
        }
        boolean fits = sent[goal] == -n;
        for (int d = 0; d < districts; d++) {
            fits &= d == goal || (sent[d] >= 0 && sent[d] <= Math.max(0, store[d] - keep));
        }
        // Tons go up from the first way on, so of like prices the first one found is the load.
        if (fits && (best == null || price < bestPrice)) {
            best = tons.clone();
            bestPrice = price;
        }
    }

    private FamineCode make() {
        FamineCode x = new FamineCode();
        districts = 2 + random.nextInt(4);
        for (int d = 0; d < districts; d++) {
            store[d] = random.nextInt(6);
            x.district(store[d], 1);
        }
        count = 1 + random.nextInt(6);
        for (int w = 0; w < count; w++) {
            int from = random.nextInt(districts);
            int to = (from + 1 + random.nextInt(districts - 1)) % districts;
            ways[w] = new int[] {from, to, 1 + random.nextInt(3), 1 + random.nextInt(3)};
            due.is("way", w, x.way(from, to, ways[w][2], ways[w][3]));
        }
        return x;
    }

    private int round(int number) {
        FamineCode x = make();
        int goal = random.nextInt(districts);
        int n = 1 + random.nextInt(5);
        int keep = random.nextInt(3);
        best = null;
        search(new int[count], 0, goal, n, keep);
        due.is("round " + number + " load", best == null ? -1 : bestPrice, x.load(goal, n, keep));
        for (int w = 0; w < count; w++) {
            due.is("round " + number + " way " + w, best == null ? -1 : best[w], x.loaded(goal, n, keep, w));
        }
        due.is("round " + number + " no way", -1, x.loaded(goal, n, keep, count));
        due.is("round " + number + " bring", best == null ? -1 : bestPrice, x.bring(goal, n, keep));
        due.is("round " + number + " status", best == null ? 3 : 0, x.status());
        for (int w = 0; best != null && w < count; w++) {
            store[ways[w][0]] -= best[w];
            store[ways[w][1]] += best[w];
        }
        for (int d = 0; d < districts; d++) {
            due.is("round " + number + " store " + d, store[d], x.told(d, 0));
        }
        return best == null ? 0 : 1;
    }

    public static void main(String[] args) {
        LoadsTest test = new LoadsTest();
        int found = 0;
        for (int i = 0; i < ROUNDS && !test.due.isWrong(); i++) {
            found += test.round(i);
        }
        System.out.println(found + " of " + ROUNDS + " had a load");
        test.due.is("enough loads were found", 1, found > ROUNDS / 8 ? 1 : 0);
        test.due.end();
    }
}
