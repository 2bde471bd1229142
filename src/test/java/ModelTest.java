import java.util.Arrays;

/** Runs of up to 512 calls, each answer held against Model's. The numbers come from a fixed row, so all runs are the same. */
public final class ModelTest {
    private static final int RUNS = 20000;
    /** The most of the first number that a call takes; the second ones of these take 0 to 3. */
    private static final int[] MOST =
        {7, 7, 7, 7, 0, 11, 7, 5, 9, 11, 64, 127, 4, 127, 0, 9, 9, 4, 9, 9, 9, 16, 6, 0};
    private static final int[] WRONG = {-1, Integer.MIN_VALUE, Integer.MAX_VALUE, -1000001, 1000, 4096};

    private static long state = 20261119;

    public static void main(String[] args) {
        for (int run = 0; run < RUNS; run++) {
            checkRun(run);
        }
        Checks.end("ModelTest");
    }

    private static int below(int bound) {
        state = state * 6364136223846793005L + 1442695040888963407L;
        return (int) Math.floorMod(state >>> 33, (long) bound);
    }

    /** A number from 0 to most, now and then one beyond an end, rarely one far off. */
    private static int near(int most) {
        int odd = below(60);
        if (odd == 0) {
            return WRONG[below(WRONG.length)];
        }
        return odd == 1 ? most + 1 : odd == 2 ? -1 : below(most + 1);
    }

    private static void checkRun(int run) {
        BuyAsAsked x = new BuyAsAsked();
        Model m = new Model();
        int theme = below(6);
        int begin = below(11);
        int dearest = new int[] {3, 12, 60, 1000}[below(4)];
        int calls = new int[] {30, 60, 120, 512}[below(4)];
        int nextDay = below(30);
        for (int call = 0; call < calls; call++) {
            int what = call < begin ? first(theme) : pick(theme);
            int[] a = numbers(what, dearest, nextDay);
            if (what == 11) {
                nextDay = Math.max(nextDay, Math.min(a[0], 128));
            }
            int got = answer(x, what, a);
            int want = answer(m, what, a);
            if (got != want) {
                Checks.due("run " + run + ", call " + call + ": " + what + Arrays.toString(a), got, want);
                return;
            }
        }
        Checks.due("run " + run, 0, 0);
    }

    /** The call, by its number in the order of the face, with which a run of a theme begins. */
    private static int first(int theme) {
        int[] firsts = {0, 4, 10, 14, 4, below(24)};
        return firsts[theme];
    }

    /** A call of the part that a theme asks more often, or any one. */
    private static int pick(int theme) {
        int[][] parts = {{0, 1, 1, 1, 2, 2, 3, 6, 23}, {4, 5, 6, 7, 7, 8, 9}, {10, 11, 11, 11, 11, 12, 12, 13},
            {14, 15, 15, 15, 15, 16, 17}, {18, 19, 20, 21, 22, 23, 4, 5}};
        if (theme == 5 || below(8) == 0) {
            return below(24);
        }
        int[] part = parts[theme];
        return part[below(part.length)];
    }

    private static int[] numbers(int what, int dearest, int nextDay) {
        switch (what) {
            case 0: return new int[] {near(7), near(2), below(4) == 0 ? near(60) : near(8)};
            case 1: return new int[] {near(7), near(8), below(3) == 0 ? below(1 << 30) * 4 + below(4) : near(12)};
            case 2: return new int[] {near(7), near(4), near(7), near(4), near(4)};
            case 4: return new int[] {1 + near(dearest - 1), below(3) == 0 ? near(4095) : below(4096) & near(4095)};
            case 6: return new int[] {near(7), near(3), below(5) == 0 ? near(60) : 1 + near(7)};
            case 10: return new int[] {below(2) == 0 ? near(64) : 1 << below(7), 1 + near(dearest - 1)};
            case 11: return new int[] {below(12) == 0 ? near(127) : nextDay + below(5)};
            case 15: return new int[] {near(9), near(9), 1 + near(dearest - 1)};
            default: return new int[] {near(MOST[what]), near(3)};
        }
    }

    private static int answer(BuyAsAsked x, int what, int[] a) {
        switch (what) {
            case 0: return x.sheet(a[0], a[1], a[2]);
            case 1: return x.set(a[0], a[1], a[2]);
            case 2: return x.copy(a[0], a[1], a[2], a[3], a[4]);
            case 3: return x.drop(a[0]);
            case 4: return x.offer(a[0], a[1]);
            case 5: return x.demand(a[0]);
            case 6: return x.demands(a[0], a[1], a[2]);
            case 7: return x.covers(a[0]);
            case 8: return x.told(a[0], a[1]);
            case 9: return x.price(a[0]);
            case 10: return x.lease(a[0], a[1]);
            case 11: return x.day(a[0]);
            case 12: return x.leases(a[0]);
            case 13: return x.covered(a[0]);
            case 14: return x.site();
            case 15: return x.way(a[0], a[1], a[2]);
            case 16: return x.call(a[0]);
            case 17: return x.joins(a[0]);
            case 18: return x.kind(a[0]);
            case 19: return x.as(a[0], a[1]);
            case 20: return x.ask(a[0], a[1]);
            case 21: return x.trace(a[0]);
            case 22: return x.count(a[0]);
            default: return x.status();
        }
    }

    private static int answer(Model m, int what, int[] a) {
        switch (what) {
            case 0: return m.sheet(a[0], a[1], a[2]);
            case 1: return m.set(a[0], a[1], a[2]);
            case 2: return m.copy(a[0], a[1], a[2], a[3], a[4]);
            case 3: return m.drop(a[0]);
            case 4: return m.offer(a[0], a[1]);
            case 5: return m.demand(a[0]);
            case 6: return m.demands(a[0], a[1], a[2]);
            case 7: return m.covers(a[0]);
            case 8: return m.told(a[0], a[1]);
            case 9: return m.price(a[0]);
            case 10: return m.lease(a[0], a[1]);
            case 11: return m.day(a[0]);
            case 12: return m.leases(a[0]);
            case 13: return m.covered(a[0]);
            case 14: return m.site();
            case 15: return m.way(a[0], a[1], a[2]);
            case 16: return m.call(a[0]);
            case 17: return m.joins(a[0]);
            case 18: return m.kind(a[0]);
            case 19: return m.as(a[0], a[1]);
            case 20: return m.ask(a[0], a[1]);
            case 21: return m.trace(a[0]);
            case 22: return m.count(a[0]);
            default: return m.status();
        }
    }
}
