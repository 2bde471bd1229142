/** Covers as asked: SETS, LEASES and WAYS bought as demands come, beside the least that would have done. */
public final class BuyAsAsked {
    public static final int NONE = -1000000, BAD = -1000001, STATE = -1000002, FULL = -1000003;

    private static final int FINDINGS = -1000010;
    private static final int NULL = 1, PLACE = 2, KIND = 3, SIZE = 4, STORE = 5;

    private static final int SHEETS = 8, LANES = 3, ITEMS = 60;
    private static final int BYTES = 0, SHORTS = 1;
    private static final int THINGS = 12, SETS = 10;
    private static final int LEASES = 4, LONGEST = 64, DAYS = 128;
    private static final int SITES = 10;
    private static final int DEAREST = 1000;
    private static final int KINDS = 4, ANY = 0, OPEN = 1, NEAR = 2, OWN = 3;
    private static final int WORTH = 0, MARK = 1;
    private static final int TRACED = 16;

    /** Above every cost, length and weight that can come up, while DAYS times it still fits an int. */
    private static final int FAR = 1000000;

    private final Sheets sheets;
    private final Sets sets;
    private final Leases leases;
    private final Sites sites;
    private final Asks asks;
    private int latest;

    public BuyAsAsked() {
        sheets = new Sheets();
        sets = new Sets();
        leases = new Leases();
        sites = new Sites();
        asks = new Asks();
        latest = 0;
    }

    // ---- sheets

    public int sheet(int sheet, int lane, int n) {
        if (!isUnder(sheet, SHEETS) || !isUnder(lane, LANES) || n > ITEMS) {
            return BAD;
        }
        latest = n < 0 ? SIZE : 0;
        return latest == 0 ? sheets.lay(sheet, lane, n) : FINDINGS - latest;
    }

    public int set(int sheet, int i, int v) {
        if (!isUnder(sheet, SHEETS)) {
            return BAD;
        }
        latest = sheets.findItems(sheet, i, 1);
        return latest == 0 ? sheets.put(sheet, i, v) : FINDINGS - latest;
    }

    public int copy(int a, int i, int b, int j, int n) {
        if (!isUnder(a, SHEETS) || !isUnder(b, SHEETS)) {
            return BAD;
        }
        latest = sheets.findPair(a, i, b, j, n);
        return latest == 0 ? sheets.move(a, i, b, j, n) : FINDINGS - latest;
    }

    public int drop(int sheet) {
        if (!isUnder(sheet, SHEETS)) {
            return BAD;
        }
        latest = sheets.isMissing(sheet) ? NULL : 0;
        return latest == 0 ? sheets.remove(sheet) : FINDINGS - latest;
    }

    // ---- sets

    public int offer(int cost, int things) {
        if (!isWithin(cost, 1, DEAREST) || !isWithin(things, 1, (1 << THINGS) - 1)) {
            return BAD;
        }
        if (sets.demanded != 0) {
            return STATE;
        }
        return sets.count < SETS ? sets.add(cost, things) : FULL;
    }

    public int demand(int thing) {
        if (!isUnder(thing, THINGS)) {
            return BAD;
        }
        return sets.isOffered(thing) ? sets.meet(thing) : STATE;
    }

    public int demands(int sheet, int i, int n) {
        if (!isUnder(sheet, SHEETS) || !isWithin(n, 1, ITEMS)) {
            return BAD;
        }
        latest = sheets.findItems(sheet, i, n);
        return latest == 0 ? meetItems(sheet, i, n) : FINDINGS - latest;
    }

    private int meetItems(int sheet, int i, int n) {
        int cost = 0;
        for (int k = i; k < i + n; k++) {
            int thing = sheets.item(sheet, k);
            if (isUnder(thing, THINGS) && sets.isOffered(thing)) {
                cost += sets.meet(thing);
            }
        }
        return cost;
    }

    public int covers(int what) {
        switch (what) {
            case 0: return sets.paid;
            case 1: return sets.pricesAdded();
            case 2: return sets.least();
            case 3: return sets.share();
            case 4: return sets.demanded;
            case 5: return sets.bought;
            default: return BAD;
        }
    }

    public int told(int set, int what) {
        if (!sets.isSet(set)) {
            return BAD;
        }
        switch (what) {
            case 0: return sets.costs[set];
            case 1: return sets.things[set];
            case 2: return sets.filled(set);
            case 3: return sets.isBought(set) ? 1 : 0;
            default: return BAD;
        }
    }

    public int price(int thing) {
        return isUnder(thing, THINGS) ? sets.prices[thing] : BAD;
    }

    // ---- leases

    public int lease(int length, int cost) {
        if (!isWithin(length, 1, LONGEST) || !isWithin(cost, 1, DEAREST)) {
            return BAD;
        }
        if (leases.daysAsked > 0 || !leases.isNextLength(length)) {
            return STATE;
        }
        return leases.count < LEASES ? leases.add(length, cost) : FULL;
    }

    public int day(int d) {
        if (!isUnder(d, DAYS)) {
            return BAD;
        }
        return leases.count > 0 && d > leases.lastDay ? leases.meet(d) : STATE;
    }

    public int leases(int what) {
        switch (what) {
            case 0: return leases.paid;
            case 1: return leases.pricesOf(0, DAYS);
            case 2: return leases.least();
            case 3: return leases.daysAsked;
            case 4: return leases.spansBought;
            default: return BAD;
        }
    }

    public int covered(int d) {
        if (!isUnder(d, DAYS)) {
            return BAD;
        }
        return leases.isMet(d) ? 1 : 0;
    }

    // ---- sites

    public int site() {
        return sites.count < SITES ? sites.add() : FULL;
    }

    public int way(int a, int b, int length) {
        if (!sites.isSite(a) || !sites.isSite(b) || a == b || !isWithin(length, 1, DEAREST)) {
            return BAD;
        }
        return sites.isWayBought(a, b) ? STATE : sites.lay(a, b, length);
    }

    public int call(int site) {
        if (!sites.isSite(site)) {
            return BAD;
        }
        return holds(sites.joined, site) ? STATE : sites.join(site);
    }

    public int joins(int what) {
        switch (what) {
            case 0: return sites.paid;
            case 1: return sites.least();
            case 2: return sites.joined;
            case 3: return sites.reached;
            case 4: return sites.waysBought;
            default: return BAD;
        }
    }

    // ---- asked

    public int kind(int set) {
        return sets.isSet(set) ? sets.kindOf(set) : BAD;
    }

    public int as(int set, int kind) {
        if (!sets.isSet(set) || !isUnder(kind, KINDS)) {
            return BAD;
        }
        latest = sets.isOfKind(set, kind) ? 0 : KIND;
        return latest == 0 ? sets.costs[set] : FINDINGS - latest;
    }

    public int ask(int set, int what) {
        if (!sets.isSet(set)) {
            return BAD;
        }
        switch (what) {
            case WORTH: return asks.askWorth(sets, set);
            case MARK: return asks.askMark(sets, set);
            default: return BAD;
        }
    }

    public int trace(int i) {
        return isUnder(i, asks.begun) ? asks.bodies[i] : NONE;
    }

    public int count(int what) {
        switch (what) {
            case 0: return sheets.present();
            case 1: return sets.count;
            case 2: return Integer.bitCount(sets.bought);
            case 3: return sets.nears();
            case 4: return leases.count;
            case 5: return sites.count;
            case 6: return sites.ways;
            default: return BAD;
        }
    }

    public int status() {
        return latest;
    }

    private static boolean isUnder(int number, int bound) {
        return number >= 0 && number < bound;
    }

    private static boolean isWithin(int number, int least, int most) {
        return number >= least && number <= most;
    }

    private static boolean holds(int bits, int number) {
        return (bits >>> number & 1) != 0;
    }

    /** The SHEETS. Their rows are made once, at full length, so that laying a SHEET anew makes nothing. */
    private static final class Sheets {
        private static final int MISSING = -1;

        private final int[][] items;
        private final int[] lanes;
        private final int[] sizes;

        Sheets() {
            items = new int[SHEETS][ITEMS];
            lanes = new int[SHEETS];
            sizes = new int[SHEETS];
            for (int s = 0; s < SHEETS; s++) {
                sizes[s] = MISSING;
            }
        }

        boolean isMissing(int sheet) {
            return sizes[sheet] == MISSING;
        }

        int findItems(int sheet, int i, int n) {
            if (isMissing(sheet)) {
                return NULL;
            }
            return isRow(sheet, i, n) ? 0 : PLACE;
        }

        int findPair(int a, int i, int b, int j, int n) {
            if (isMissing(a) || isMissing(b)) {
                return NULL;
            }
            if (lanes[a] != lanes[b]) {
                return STORE;
            }
            return isRow(a, i, n) && isRow(b, j, n) ? 0 : PLACE;
        }

        private boolean isRow(int sheet, int i, int n) {
            // i + n could wrap around; the size less n, where n is not below 0, can't
            return i >= 0 && n >= 0 && i <= sizes[sheet] - n;
        }

        int lay(int sheet, int lane, int n) {
            for (int i = 0; i < n; i++) {
                items[sheet][i] = 0;
            }
            lanes[sheet] = lane;
            sizes[sheet] = n;
            return n;
        }

        int put(int sheet, int i, int v) {
            items[sheet][i] = fit(lanes[sheet], v);
            return items[sheet][i];
        }

        private static int fit(int lane, int v) {
            switch (lane) {
                case BYTES: return (byte) v;
                case SHORTS: return (short) v;
                default: return v;
            }
        }

        int item(int sheet, int i) {
            return items[sheet][i];
        }

        int move(int a, int i, int b, int j, int n) {
            System.arraycopy(items[a], i, items[b], j, n);
            return n;
        }

        int remove(int sheet) {
            int n = sizes[sheet];
            sizes[sheet] = MISSING;
            return n;
        }

        int present() {
            int many = 0;
            for (int s = 0; s < SHEETS; s++) {
                if (!isMissing(s)) {
                    many++;
                }
            }
            return many;
        }
    }

    /** The SETS and the PRICES of their THINGS. */
    private static final class Sets {
        private final int[] costs;
        private final int[] things;
        private final int[] prices;
        private int count;
        private int offered;
        private int demanded;
        private int bought;
        private int met;
        private int paid;

        Sets() {
            costs = new int[SETS];
            things = new int[SETS];
            prices = new int[THINGS];
        }

        boolean isSet(int set) {
            return isUnder(set, count);
        }

        boolean isOffered(int thing) {
            return holds(offered, thing);
        }

        boolean isBought(int set) {
            return holds(bought, set);
        }

        int add(int cost, int bits) {
            costs[count] = cost;
            things[count] = bits;
            offered |= bits;
            count++;
            return count - 1;
        }

        int meet(int thing) {
            demanded |= 1 << thing;
            if (holds(met, thing)) {
                return 0;
            }
            prices[thing] += leastGap(thing);
            int cost = buyTight(thing);
            paid += cost;
            return cost;
        }

        private int leastGap(int thing) {
            int least = DEAREST;
            for (int s = 0; s < count; s++) {
                if (holds(things[s], thing)) {
                    least = Math.min(least, costs[s] - filled(s));
                }
            }
            return least;
        }

        private int buyTight(int thing) {
            int cost = 0;
            for (int s = 0; s < count; s++) {
                if (holds(things[s], thing) && filled(s) == costs[s]) {
                    bought |= 1 << s;
                    met |= things[s];
                    cost += costs[s];
                }
            }
            return cost;
        }

        int filled(int set) {
            return pricesOf(things[set]);
        }

        int pricesAdded() {
            return pricesOf((1 << THINGS) - 1);
        }

        private int pricesOf(int bits) {
            int sum = 0;
            for (int t = 0; t < THINGS; t++) {
                if (holds(bits, t)) {
                    sum += prices[t];
                }
            }
            return sum;
        }

        int least() {
            return leastFrom(this, 0, demanded);
        }

        /** The least cost of SETS from s on that have all that is missing: s is the depth, count its limit. */
        private static int leastFrom(Sets sets, int s, int missing) {
            if (missing == 0) {
                return 0;
            }
            if (s >= sets.count) {
                return FAR;
            }
            int without = leastFrom(sets, s + 1, missing);
            if ((sets.things[s] & missing) == 0) {
                return without;
            }
            return Math.min(without, sets.costs[s] + leastFrom(sets, s + 1, missing & ~sets.things[s]));
        }

        int share() {
            int most = 0;
            for (int t = 0; t < THINGS; t++) {
                if (holds(demanded, t)) {
                    most = Math.max(most, havers(t));
                }
            }
            return most;
        }

        private int havers(int thing) {
            int many = 0;
            for (int s = 0; s < count; s++) {
                if (holds(things[s], thing)) {
                    many++;
                }
            }
            return many;
        }

        int kindOf(int set) {
            if (isBought(set)) {
                return OWN;
            }
            return 2 * filled(set) >= costs[set] ? NEAR : OPEN;
        }

        boolean isOfKind(int set, int kind) {
            int own = kindOf(set);
            return kind == ANY || kind == own || kind == OPEN && own == NEAR;
        }

        int nears() {
            int many = 0;
            for (int s = 0; s < count; s++) {
                if (kindOf(s) == NEAR) {
                    many++;
                }
            }
            return many;
        }
    }

    /** The LEASES and the prices of the days. A SPAN is known by its LEASE and its first day. */
    private static final class Leases {
        private final int[] lengths;
        private final int[] costs;
        private final int[] prices;
        private final boolean[] asked;
        /** For a day, the bits of the LEASES whose SPANS that begin there are bought. */
        private final int[] boughtFrom;
        private final int[] open;
        private int count;
        private int lastDay;
        private int daysAsked;
        private int spansBought;
        private int paid;

        Leases() {
            lengths = new int[LEASES];
            costs = new int[LEASES];
            prices = new int[DAYS];
            asked = new boolean[DAYS];
            boughtFrom = new int[DAYS];
            open = new int[LEASES + 1];
            lastDay = -1;
        }

        boolean isNextLength(int length) {
            if (count == 0) {
                return true;
            }
            int ahead = lengths[count - 1];
            return length >= 2 * ahead && isMultiple(length, ahead);
        }

        private static boolean isMultiple(int number, int of) {
            return of > 0 && number % of == 0;
        }

        int add(int length, int cost) {
            lengths[count] = length;
            costs[count] = cost;
            count++;
            return count - 1;
        }

        int meet(int d) {
            asked[d] = true;
            daysAsked++;
            lastDay = d;
            if (isMet(d)) {
                return 0;
            }
            prices[d] += leastGap(d);
            int cost = buyTight(d);
            paid += cost;
            return cost;
        }

        boolean isMet(int d) {
            for (int k = 0; k < count; k++) {
                if (holds(boughtFrom[start(k, d)], k)) {
                    return true;
                }
            }
            return false;
        }

        private int leastGap(int d) {
            int least = DEAREST;
            for (int k = 0; k < count; k++) {
                least = Math.min(least, costs[k] - filled(k, d));
            }
            return least;
        }

        private int buyTight(int d) {
            int cost = 0;
            for (int k = 0; k < count; k++) {
                if (filled(k, d) == costs[k]) {
                    boughtFrom[start(k, d)] |= 1 << k;
                    spansBought++;
                    cost += costs[k];
                }
            }
            return cost;
        }

        private int start(int k, int d) {
            int length = lengths[k];
            return length > 0 ? d - d % length : d;
        }

        private int filled(int k, int d) {
            int from = start(k, d);
            return pricesOf(from, from + lengths[k]);
        }

        int pricesOf(int from, int end) {
            int sum = 0;
            for (int d = from; d < end && d < DAYS; d++) {
                sum += prices[d];
            }
            return sum;
        }

        /**
         * SPANS lie one within another, so each is best covered by itself or by the best of those right below.
         * open[k] adds up what is due within the SPAN of LEASE k that stands open; one where nothing was asked
         * is due nothing, and an asked day alone is dearer than any LEASE.
         */
        int least() {
            for (int k = 0; k <= count; k++) {
                open[k] = 0;
            }
            for (int d = 0; d <= lastDay; d++) {
                if (asked[d]) {
                    open[0] += FAR;
                }
                closeSpans(d);
            }
            return open[count];
        }

        private void closeSpans(int d) {
            for (int k = 0; k < count; k++) {
                if (d == lastDay || isMultiple(d + 1, lengths[k])) {
                    open[k + 1] += Math.min(open[k], costs[k]);
                    open[k] = 0;
                }
            }
        }
    }

    /** The SITES, the WAYS between them and the rows of WAYS that are bought. */
    private static final class Sites {
        /** A row weighs its length times this, and one for each WAY, so that of equal lengths fewer WAYS are less. */
        private static final int STEP = 16;

        private final int[][] lengths;
        private final int[] boughtFrom;
        private final int[] weights;
        private final int[][] nearest;
        private final int[] gaps;
        private int count;
        private int ways;
        private int first;
        private int joined;
        private int reached;
        private int waysBought;
        private int paid;

        Sites() {
            lengths = new int[SITES][SITES];
            boughtFrom = new int[SITES];
            weights = new int[SITES];
            nearest = new int[SITES][SITES];
            gaps = new int[SITES];
        }

        boolean isSite(int site) {
            return isUnder(site, count);
        }

        boolean isWayBought(int a, int b) {
            return holds(boughtFrom[a], b);
        }

        int add() {
            count++;
            return count - 1;
        }

        int lay(int a, int b, int length) {
            int was = lengths[a][b];
            if (was == 0) {
                ways++;
            }
            lengths[a][b] = length;
            lengths[b][a] = length;
            return was;
        }

        int join(int site) {
            if (joined == 0) {
                first = site;
                reached = 1 << site;
            }
            weighRows();
            if (weights[site] >= FAR) {
                return NONE;
            }
            int cost = buyRow(site);
            joined |= 1 << site;
            paid += cost;
            return cost;
        }

        /**
         * A row of fewest WAYS ends where it first comes to what is bought. So no WAY within one is bought
         * already, and what those would cost need not be asked.
         */
        private void weighRows() {
            for (int s = 0; s < count; s++) {
                weights[s] = holds(reached, s) ? 0 : FAR;
            }
            for (int round = 0; round < count; round++) {
                for (int s = 0; s < count; s++) {
                    weights[s] = leastWeight(s);
                }
            }
        }

        private int leastWeight(int from) {
            int least = weights[from];
            for (int to = 0; to < count; to++) {
                if (lengths[from][to] > 0) {
                    least = Math.min(least, weights[to] + weightOf(from, to));
                }
            }
            return least;
        }

        private int weightOf(int a, int b) {
            return lengths[a][b] * STEP + 1;
        }

        private int buyRow(int site) {
            int cost = 0;
            int at = site;
            for (int n = 0; n < count && weights[at] > 0; n++) {
                int to = nextOnRow(at);
                cost += lengths[at][to];
                buyWay(at, to);
                at = to;
            }
            return cost;
        }

        private int nextOnRow(int at) {
            for (int to = 0; to < count; to++) {
                if (lengths[at][to] > 0 && weights[to] + weightOf(at, to) == weights[at]) {
                    return to;
                }
            }
            return at;
        }

        private void buyWay(int a, int b) {
            boughtFrom[a] |= 1 << b;
            boughtFrom[b] |= 1 << a;
            reached |= 1 << a | 1 << b;
            waysBought++;
        }

        /**
         * Between nearest distances a SITE that is not JOINED helps only where three or more branches meet,
         * so trees with at most two such fewer than there are JOINED ones are all that need be looked at.
         */
        int least() {
            int most = Integer.bitCount(joined) - 2;
            if (most < 0) {
                return 0;
            }
            findNearest();
            int best = FAR;
            for (int more = 0; more < 1 << count; more++) {
                if ((more & joined) == 0 && Integer.bitCount(more) <= most) {
                    best = Math.min(best, treeOf(joined | more));
                }
            }
            return best < FAR ? best : NONE;
        }

        private void findNearest() {
            for (int a = 0; a < count; a++) {
                for (int b = 0; b < count; b++) {
                    nearest[a][b] = lengths[a][b] > 0 ? lengths[a][b] : FAR;
                }
                nearest[a][a] = 0;
            }
            for (int over = 0; over < count; over++) {
                for (int a = 0; a < count; a++) {
                    shorten(nearest[a], nearest[a][over], over);
                }
            }
        }

        private void shorten(int[] distances, int far, int over) {
            for (int b = 0; b < count; b++) {
                distances[b] = Math.min(distances[b], far + nearest[over][b]);
            }
        }

        private int treeOf(int members) {
            int length = 0;
            int left = members & ~(1 << first);
            for (int s = 0; s < count; s++) {
                gaps[s] = nearest[first][s];
            }
            for (int n = 0; n < count && left != 0; n++) {
                int next = nearestOf(left);
                length += gaps[next];
                left &= ~(1 << next);
                shorten(gaps, 0, next);
            }
            return length;
        }

        private int nearestOf(int left) {
            int best = first;
            int gap = FAR + 1;
            for (int s = 0; s < count; s++) {
                if (holds(left, s) && gaps[s] < gap) {
                    best = s;
                    gap = gaps[s];
                }
            }
            return best;
        }
    }

    /** The BODIES of the ASKS, and THE TRACE of them. */
    private static final class Asks {
        private final int[] bodies;
        private int begun;

        Asks() {
            bodies = new int[TRACED];
        }

        int askWorth(Sets sets, int set) {
            begun = 0;
            switch (sets.kindOf(set)) {
                case OWN: return worthOfOwn(sets, set);
                case NEAR: return worthOfNear(sets, set);
                default: return worthOfOpen(sets, set);
            }
        }

        int askMark(Sets sets, int set) {
            begun = 0;
            switch (sets.kindOf(set)) {
                case OWN: return markOfOwn(sets, set);
                case NEAR: return markOfNear(sets, set);
                default: return markOfAny(sets, set);
            }
        }

        private void begin(int body) {
            if (begun < TRACED) {
                bodies[begun] = body;
                begun++;
            }
        }

        private int worthOfAny(Sets sets, int set) {
            begin(10);
            return sets.costs[set];
        }

        private int worthOfOpen(Sets sets, int set) {
            begin(11);
            return worthOfAny(sets, set) - sets.filled(set);
        }

        private int worthOfNear(Sets sets, int set) {
            begin(12);
            // MARK is asked anew of the same SET: it is NEAR still, so that body is known
            return worthOfOpen(sets, set) + markOfNear(sets, set);
        }

        private int worthOfOwn(Sets sets, int set) {
            begin(13);
            return 2 * worthOfAny(sets, set);
        }

        private int markOfAny(Sets sets, int set) {
            begin(20);
            return Integer.bitCount(sets.things[set]);
        }

        private int markOfNear(Sets sets, int set) {
            begin(21);
            return markOfAny(sets, set) + 100;
        }

        private int markOfOwn(Sets sets, int set) {
            begin(22);
            // WORTH is asked anew of the same SET: it is OWN still, so that body is known
            return markOfAny(sets, set) + worthOfOwn(sets, set);
        }
    }
}
