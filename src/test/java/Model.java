import java.util.ArrayList;
import java.util.List;

/**
 * The document written a second time, by its words and by slow means: prices rise by ones, rows of WAYS are all
 * walked, and what would have been the least is found by going through all that could be bought.
 */
final class Model {
    private static final int NONE = -1000000, BAD = -1000001, STATE = -1000002, FULL = -1000003;

    private final long[][] sheets = new long[8][];
    private final int[] lanes = new int[8];
    private int finding = 0;

    private final List<int[]> sets = new ArrayList<>();
    private final List<Integer> boughtSets = new ArrayList<>();
    private final int[] prices = new int[12];
    private final boolean[] demanded = new boolean[12];
    private int paidForSets = 0;

    private final List<int[]> leases = new ArrayList<>();
    private final List<int[]> spans = new ArrayList<>();
    private final List<Integer> days = new ArrayList<>();
    private final int[] dayPrices = new int[200];
    private int paidForSpans = 0;

    private int sites = 0;
    private final int[][] lengths = new int[10][10];
    private final boolean[][] bought = new boolean[10][10];
    private final List<Integer> joined = new ArrayList<>();
    private int paidForWays = 0;
    private List<Integer> bestRow = null;
    private int bestCost = 0;

    private List<Integer> bodies = new ArrayList<>();

    private int found(int number) {
        finding = number;
        return -1000010 - number;
    }

    private static boolean out(long number, long least, long most) {
        return number < least || number > most;
    }

    // ---- sheets

    int sheet(int sheet, int lane, int n) {
        if (out(sheet, 0, 7) || out(lane, 0, 2) || n > 60) {
            return BAD;
        }
        if (n < 0) {
            return found(4);
        }
        finding = 0;
        sheets[sheet] = new long[n];
        lanes[sheet] = lane;
        return n;
    }

    int set(int sheet, int i, int v) {
        if (out(sheet, 0, 7)) {
            return BAD;
        }
        if (sheets[sheet] == null) {
            return found(1);
        }
        if (out(i, 0, sheets[sheet].length - 1)) {
            return found(2);
        }
        finding = 0;
        long values = lanes[sheet] == 0 ? 256L : lanes[sheet] == 1 ? 65536L : 4294967296L;
        long low = Math.floorMod((long) v, values);
        sheets[sheet][i] = low >= values / 2 ? low - values : low;
        return (int) sheets[sheet][i];
    }

    int copy(int a, int i, int b, int j, int n) {
        if (out(a, 0, 7) || out(b, 0, 7)) {
            return BAD;
        }
        if (sheets[a] == null || sheets[b] == null) {
            return found(1);
        }
        if (lanes[a] != lanes[b]) {
            return found(5);
        }
        if (i < 0 || j < 0 || n < 0 || (long) i + n > sheets[a].length || (long) j + n > sheets[b].length) {
            return found(2);
        }
        finding = 0;
        long[] ahead = sheets[a].clone();
        for (int k = 0; k < n; k++) {
            sheets[b][j + k] = ahead[i + k];
        }
        return n;
    }

    int drop(int sheet) {
        if (out(sheet, 0, 7)) {
            return BAD;
        }
        if (sheets[sheet] == null) {
            return found(1);
        }
        finding = 0;
        int n = sheets[sheet].length;
        sheets[sheet] = null;
        return n;
    }

    // ---- sets

    private boolean has(int set, int thing) {
        return (sets.get(set)[1] / (1 << thing)) % 2 == 1;
    }

    private int filled(int set) {
        int sum = 0;
        for (int t = 0; t < 12; t++) {
            sum += has(set, t) ? prices[t] : 0;
        }
        return sum;
    }

    int offer(int cost, int things) {
        if (out(cost, 1, 1000) || out(things, 1, 4095)) {
            return BAD;
        }
        for (boolean was : demanded) {
            if (was) {
                return STATE;
            }
        }
        if (sets.size() == 10) {
            return FULL;
        }
        sets.add(new int[] {cost, things});
        return sets.size() - 1;
    }

    int demand(int thing) {
        if (out(thing, 0, 11)) {
            return BAD;
        }
        List<Integer> having = new ArrayList<>();
        for (int s = 0; s < sets.size(); s++) {
            if (has(s, thing)) {
                having.add(s);
            }
        }
        if (having.isEmpty()) {
            return STATE;
        }
        demanded[thing] = true;
        for (int s : having) {
            if (boughtSets.contains(s)) {
                return 0;
            }
        }
        int cost = 0;
        while (cost == 0) {
            prices[thing]++;
            for (int s : having) {
                if (filled(s) == sets.get(s)[0]) {
                    boughtSets.add(s);
                    cost += sets.get(s)[0];
                }
            }
        }
        paidForSets += cost;
        return cost;
    }

    int demands(int sheet, int i, int n) {
        if (out(sheet, 0, 7) || out(n, 1, 60)) {
            return BAD;
        }
        if (sheets[sheet] == null) {
            return found(1);
        }
        if (i < 0 || (long) i + n > sheets[sheet].length) {
            return found(2);
        }
        finding = 0;
        int cost = 0;
        for (int k = i; k < i + n; k++) {
            cost += Math.max(0, demand((int) sheets[sheet][k]));
        }
        return cost;
    }

    private int leastOfSets() {
        int best = Integer.MAX_VALUE;
        for (int some = 0; some < 1 << sets.size(); some++) {
            int cost = 0;
            boolean[] there = new boolean[12];
            for (int s = 0; s < sets.size(); s++) {
                if ((some >> s) % 2 == 1) {
                    cost += sets.get(s)[0];
                    for (int t = 0; t < 12; t++) {
                        there[t] |= has(s, t);
                    }
                }
            }
            boolean all = true;
            for (int t = 0; t < 12; t++) {
                all &= there[t] || !demanded[t];
            }
            best = all ? Math.min(best, cost) : best;
        }
        return best;
    }

    private int share() {
        int most = 0;
        for (int t = 0; t < 12; t++) {
            int many = 0;
            for (int s = 0; s < sets.size(); s++) {
                many += demanded[t] && has(s, t) ? 1 : 0;
            }
            most = Math.max(most, many);
        }
        return most;
    }

    int covers(int what) {
        int sum = 0;
        switch (what) {
            case 0:
                return paidForSets;
            case 1:
                for (int price : prices) {
                    sum += price;
                }
                return sum;
            case 2:
                return leastOfSets();
            case 3:
                return share();
            case 4:
                for (int t = 0; t < 12; t++) {
                    sum += demanded[t] ? 1 << t : 0;
                }
                return sum;
            case 5:
                for (int s : boughtSets) {
                    sum += 1 << s;
                }
                return sum;
            default:
                return BAD;
        }
    }

    int told(int set, int what) {
        if (out(set, 0, sets.size() - 1) || out(what, 0, 3)) {
            return BAD;
        }
        int[] all = {sets.get(set)[0], sets.get(set)[1], filled(set), boughtSets.contains(set) ? 1 : 0};
        return all[what];
    }

    int price(int thing) {
        return out(thing, 0, 11) ? BAD : prices[thing];
    }

    // ---- leases

    int lease(int length, int cost) {
        if (out(length, 1, 64) || out(cost, 1, 1000)) {
            return BAD;
        }
        int ahead = leases.isEmpty() ? 0 : leases.get(leases.size() - 1)[0];
        if (!days.isEmpty() || ahead > 0 && (length % ahead != 0 || length / ahead < 2)) {
            return STATE;
        }
        if (leases.size() == 4) {
            return FULL;
        }
        leases.add(new int[] {length, cost});
        return leases.size() - 1;
    }

    /** The SPAN of a LEASE for a day: first day, first day behind it. */
    private int[] spanOf(int lease, int d) {
        int length = leases.get(lease)[0];
        return new int[] {d / length * length, d / length * length + length};
    }

    private int filledSpan(int[] span) {
        int sum = 0;
        for (int d = span[0]; d < span[1]; d++) {
            sum += dayPrices[d];
        }
        return sum;
    }

    int day(int d) {
        if (out(d, 0, 127)) {
            return BAD;
        }
        if (leases.isEmpty() || !days.isEmpty() && days.get(days.size() - 1) >= d) {
            return STATE;
        }
        days.add(d);
        if (covered(d) == 1) {
            return 0;
        }
        int cost = 0;
        while (cost == 0) {
            dayPrices[d]++;
            for (int k = 0; k < leases.size(); k++) {
                if (filledSpan(spanOf(k, d)) == leases.get(k)[1]) {
                    spans.add(spanOf(k, d));
                    cost += leases.get(k)[1];
                }
            }
        }
        paidForSpans += cost;
        return cost;
    }

    /** SPANS that cover the asked days are bought from the last day on: each ends all that is due up to its begin. */
    private int leastOfLeases() {
        int[] best = new int[129];
        for (int to = 1; to <= 128; to++) {
            best[to] = best[to - 1];
            if (days.contains(to - 1)) {
                best[to] = Integer.MAX_VALUE;
                for (int k = 0; k < leases.size(); k++) {
                    best[to] = Math.min(best[to], best[spanOf(k, to - 1)[0]] + leases.get(k)[1]);
                }
            }
        }
        return best[128];
    }

    int leases(int what) {
        if (out(what, 0, 4)) {
            return BAD;
        }
        int[] all = {paidForSpans, filledSpan(new int[] {0, 128}), leastOfLeases(), days.size(), spans.size()};
        return all[what];
    }

    int covered(int d) {
        if (out(d, 0, 127)) {
            return BAD;
        }
        for (int[] span : spans) {
            if (span[0] <= d && d < span[1]) {
                return 1;
            }
        }
        return 0;
    }

    // ---- sites

    int site() {
        return sites == 10 ? FULL : sites++;
    }

    int way(int a, int b, int length) {
        if (out(a, 0, sites - 1) || out(b, 0, sites - 1) || a == b || out(length, 1, 1000)) {
            return BAD;
        }
        if (bought[a][b]) {
            return STATE;
        }
        int was = lengths[a][b];
        lengths[a][b] = length;
        lengths[b][a] = length;
        return was;
    }

    private boolean isOnBought(int site) {
        boolean on = joined.contains(site);
        for (int other = 0; other < 10; other++) {
            on |= bought[site][other];
        }
        return on;
    }

    /** Whether a row is to be taken ahead of the best one so far: cost, then WAYS, then SITES. */
    private boolean isBetter(List<Integer> row, int cost) {
        if (bestRow == null || cost != bestCost) {
            return bestRow == null || cost < bestCost;
        }
        if (row.size() != bestRow.size()) {
            return row.size() < bestRow.size();
        }
        for (int i = 0; i < row.size(); i++) {
            if (!row.get(i).equals(bestRow.get(i))) {
                return row.get(i) < bestRow.get(i);
            }
        }
        return false;
    }

    private void walk(List<Integer> row, int cost) {
        int at = row.get(row.size() - 1);
        if (isOnBought(at) && isBetter(row, cost)) {
            bestRow = new ArrayList<>(row);
            bestCost = cost;
        }
        for (int to = 0; to < sites; to++) {
            int more = cost + (bought[at][to] ? 0 : lengths[at][to]);
            if (lengths[at][to] > 0 && !row.contains(to) && (bestRow == null || more <= bestCost)) {
                row.add(to);
                walk(row, more);
                row.remove(row.size() - 1);
            }
        }
    }

    int call(int site) {
        if (out(site, 0, sites - 1)) {
            return BAD;
        }
        if (joined.contains(site)) {
            return STATE;
        }
        if (joined.isEmpty()) {
            joined.add(site);
            return 0;
        }
        bestRow = null;
        walk(new ArrayList<>(List.of(site)), 0);
        if (bestRow == null) {
            return NONE;
        }
        for (int i = 1; i < bestRow.size(); i++) {
            bought[bestRow.get(i - 1)][bestRow.get(i)] = true;
            bought[bestRow.get(i)][bestRow.get(i - 1)] = true;
        }
        joined.add(site);
        paidForWays += bestCost;
        return bestCost;
    }

    /** The least tree of WAYS between just these SITES, grown WAY by WAY; more than any if there is none. */
    private int treeOf(boolean[] members, int first) {
        boolean[] in = new boolean[10];
        in[first] = true;
        int length = 0;
        while (true) {
            int from = -1;
            int to = -1;
            boolean all = true;
            for (int b = 0; b < 10; b++) {
                all &= in[b] || !members[b];
                for (int a = 0; a < 10; a++) {
                    if (in[a] && members[b] && !in[b] && lengths[a][b] > 0
                        && (to < 0 || lengths[a][b] < lengths[from][to])) {
                        from = a;
                        to = b;
                    }
                }
            }
            if (all || to < 0) {
                return all ? length : Integer.MAX_VALUE;
            }
            in[to] = true;
            length += lengths[from][to];
        }
    }

    private int leastOfSites() {
        if (joined.isEmpty()) {
            return 0;
        }
        int best = Integer.MAX_VALUE;
        for (int some = 0; some < 1 << sites; some++) {
            boolean[] members = new boolean[10];
            for (int s = 0; s < sites; s++) {
                members[s] = (some >> s) % 2 == 1;
            }
            boolean all = true;
            for (int s : joined) {
                all &= members[s];
            }
            best = all ? Math.min(best, treeOf(members, joined.get(0))) : best;
        }
        return best == Integer.MAX_VALUE ? NONE : best;
    }

    int joins(int what) {
        int[] bits = new int[2];
        int ways = 0;
        for (int a = 0; a < 10; a++) {
            bits[0] += joined.contains(a) ? 1 << a : 0;
            bits[1] += isOnBought(a) ? 1 << a : 0;
            for (int b = 0; b < a; b++) {
                ways += bought[a][b] ? 1 : 0;
            }
        }
        switch (what) {
            case 0: return paidForWays;
            case 1: return leastOfSites();
            case 2: return bits[0];
            case 3: return bits[1];
            case 4: return ways;
            default: return BAD;
        }
    }

    // ---- asked

    int kind(int set) {
        if (out(set, 0, sets.size() - 1)) {
            return BAD;
        }
        if (boughtSets.contains(set)) {
            return 3;
        }
        return filled(set) + filled(set) >= sets.get(set)[0] ? 2 : 1;
    }

    int as(int set, int kind) {
        if (out(set, 0, sets.size() - 1) || out(kind, 0, 3)) {
            return BAD;
        }
        int[][] is = {{0, 1}, {0, 1, 2}, {0, 3}};
        for (int one : is[kind(set) - 1]) {
            if (one == kind) {
                finding = 0;
                return sets.get(set)[0];
            }
        }
        return found(3);
    }

    private int worth(int set) {
        return worthBody(set, kind(set) + 10);
    }

    private int worthBody(int set, int body) {
        bodies.add(body);
        switch (body) {
            case 11: return worthBody(set, 10) - filled(set);
            case 12: return worthBody(set, 11) + mark(set);
            case 13: return 2 * worthBody(set, 10);
            default: return sets.get(set)[0];
        }
    }

    private int mark(int set) {
        int[] byKind = {20, 20, 21, 22};
        return markBody(set, byKind[kind(set)]);
    }

    private int markBody(int set, int body) {
        bodies.add(body);
        switch (body) {
            case 21: return markBody(set, 20) + 100;
            case 22: return markBody(set, 20) + worth(set);
            default:
                int many = 0;
                for (int t = 0; t < 12; t++) {
                    many += has(set, t) ? 1 : 0;
                }
                return many;
        }
    }

    int ask(int set, int what) {
        if (out(set, 0, sets.size() - 1) || out(what, 0, 1)) {
            return BAD;
        }
        bodies = new ArrayList<>();
        return what == 0 ? worth(set) : mark(set);
    }

    int trace(int i) {
        return out(i, 0, Math.min(16, bodies.size()) - 1) ? NONE : bodies.get(i);
    }

    int count(int what) {
        int[] all = {0, sets.size(), boughtSets.size(), 0, leases.size(), sites, 0};
        for (long[] sheet : sheets) {
            all[0] += sheet == null ? 0 : 1;
        }
        for (int s = 0; s < sets.size(); s++) {
            all[3] += kind(s) == 2 ? 1 : 0;
        }
        for (int a = 0; a < 10; a++) {
            for (int b = 0; b < a; b++) {
                all[6] += lengths[a][b] > 0 ? 1 : 0;
            }
        }
        return out(what, 0, 6) ? BAD : all[what];
    }

    int status() {
        return finding;
    }
}
