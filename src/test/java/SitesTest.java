/** Promises 16 to 19. */
public final class SitesTest {
    private static final int BAD = Checks.BAD, STATE = Checks.STATE, FULL = Checks.FULL, NONE = Checks.NONE;

    public static void main(String[] args) {
        siteNumbers();
        ways();
        wayRefusals();
        calls();
        rowsEndAtWhatIsBought();
        fewerWaysGoFirst();
        leastSitesGoFirst();
        callRefusals();
        joinsOfAll();
        leastUsesOtherSites();
        leastOfManyOthers();
        leastFollowsTheLengths();
        Checks.end("SitesTest");
    }

    private static void due(String call, long got, long want) {
        Checks.due(call, got, want);
    }

    private static BuyAsAsked withSites(int n) {
        BuyAsAsked x = new BuyAsAsked();
        for (int s = 0; s < n; s++) {
            x.site();
        }
        return x;
    }

    private static void siteNumbers() {
        BuyAsAsked x = new BuyAsAsked();
        for (int s = 0; s < 10; s++) {
            due("16: number", x.site(), s);
            due("16: count", x.count(5), s + 1);
        }
        due("16: an eleventh", x.site(), FULL);
        due("16: ten stand", x.count(5), 10);
    }

    private static void ways() {
        BuyAsAsked x = withSites(10);
        due("17: none yet", x.way(0, 9, 1), 0);
        due("17: the other way round", x.way(9, 0, 1000), 1);
        due("17: what it was", x.way(0, 9, 5), 1000);
        due("17: one WAY", x.count(6), 1);
        due("17: another", x.way(8, 9, 5), 0);
        due("17: two WAYS", x.count(6), 2);
        x.call(0);
        due("17: bought for what it is now", x.call(9), 5);
        due("17: bought", x.way(0, 9, 5), STATE);
        due("17: bought, the other way round", x.way(9, 0, 7), STATE);
        due("17: not bought", x.way(9, 8, 7), 5);
    }

    private static void wayRefusals() {
        BuyAsAsked x = withSites(2);
        due("17: a below", x.way(-1, 0, 1), BAD);
        due("17: a above", x.way(2, 0, 1), BAD);
        due("17: b below", x.way(0, -1, 1), BAD);
        due("17: b above", x.way(0, 2, 1), BAD);
        due("17: like ones", x.way(1, 1, 1), BAD);
        due("17: length below", x.way(0, 1, 0), BAD);
        due("17: length above", x.way(0, 1, 1001), BAD);
        due("17: far below", x.way(0, 1, Checks.LEAST), BAD);
        due("17: far above", x.way(0, Checks.MOST, 1), BAD);
        due("17: none came", x.count(6), 0);
        x.way(0, 1, 1);
        x.call(0);
        x.call(1);
        due("17: BAD goes ahead of STATE", x.way(0, 1, 0), BAD);
    }

    private static void calls() {
        BuyAsAsked x = withSites(4);
        x.way(0, 1, 2);
        x.way(1, 2, 2);
        x.way(0, 2, 5);
        due("18: the first one", x.call(2), 0);
        due("18: least cost", x.call(0), 4);
        due("18: two WAYS", x.joins(4), 2);
        due("18: JOINED", x.joins(2), 5);
        due("18: on what is bought", x.joins(3), 7);
        due("18: on what is bought already", x.call(1), 0);
        due("18: no more WAYS", x.joins(4), 2);
        due("18: it is JOINED now", x.joins(2), 7);
    }

    private static void rowsEndAtWhatIsBought() {
        BuyAsAsked x = withSites(5);
        x.way(0, 1, 10);
        x.way(1, 2, 10);
        x.way(2, 3, 1);
        x.way(3, 0, 12);
        x.way(1, 4, 3);
        x.way(4, 0, 3);
        x.call(0);
        due("18: over 4 and 1", x.call(2), 3 + 10 - 0);
        due("18: what was bought there", x.joins(3), 13);
        due("18: to the nearest that is bought", x.call(4), 3);
    }

    private static void fewerWaysGoFirst() {
        BuyAsAsked x = withSites(5);
        x.way(4, 0, 2);
        x.way(0, 1, 2);
        x.way(1, 3, 2);
        x.way(4, 2, 3);
        x.way(2, 3, 3);
        x.call(3);
        due("18: 6 either way", x.call(4), 6);
        due("18: by fewer WAYS", x.joins(3), 1 << 4 | 1 << 2 | 1 << 3);
        BuyAsAsked y = withSites(5);
        y.way(4, 0, 1000);
        y.way(0, 1, 1000);
        y.way(1, 3, 1000);
        y.way(3, 2, 999);
        y.way(4, 2, 1000);
        y.call(2);
        due("18: least cost goes ahead of fewest WAYS", y.call(1), 1999);
        due("18: over 3", y.joins(3), 14);
    }

    private static void leastSitesGoFirst() {
        BuyAsAsked x = withSites(8);
        x.way(7, 3, 2);
        x.way(7, 2, 2);
        x.way(3, 0, 2);
        x.way(2, 6, 2);
        x.way(2, 5, 2);
        x.way(0, 1, 2);
        x.way(6, 1, 2);
        x.way(5, 1, 2);
        x.call(1);
        due("18: 6 each way", x.call(7), 6);
        due("18: from the called one on", x.joins(3), 1 << 7 | 1 << 2 | 1 << 5 | 1 << 1);
        BuyAsAsked y = withSites(4);
        y.way(3, 2, 4);
        y.way(3, 1, 4);
        y.way(0, 1, 9);
        y.way(0, 2, 9);
        y.way(1, 2, 1);
        y.call(1);
        y.call(2);
        due("18: to one of two", y.call(3), 4);
        due("18: to the least of them", y.way(3, 1, 5), STATE);
        due("18: not to the other", y.way(3, 2, 5), 4);
    }

    private static void callRefusals() {
        BuyAsAsked x = withSites(3);
        due("18: below", x.call(-1), BAD);
        due("18: above", x.call(3), BAD);
        due("18: far above", x.call(Checks.MOST), BAD);
        due("18: first", x.call(1), 0);
        due("18: JOINED already", x.call(1), STATE);
        due("18: no row", x.call(0), NONE);
        due("18: it is not JOINED", x.joins(2), 2);
        due("18: nor on what is bought", x.joins(3), 2);
        x.way(0, 2, 3);
        due("18: still no row", x.call(0), NONE);
        x.way(2, 1, 3);
        due("18: a row", x.call(0), 6);
    }

    private static void joinsOfAll() {
        BuyAsAsked x = withSites(4);
        x.way(0, 1, 4);
        x.way(0, 2, 4);
        x.way(0, 3, 4);
        x.way(1, 2, 7);
        x.way(2, 3, 7);
        due("19: nothing JOINED", x.joins(1), 0);
        x.call(1);
        due("19: one JOINED", x.joins(1), 0);
        x.call(2);
        due("19: BEST of two", x.joins(1), 7);
        x.call(3);
        due("19: paid", x.joins(0), 14);
        due("19: BEST over 0", x.joins(1), 12);
        due("19: JOINED", x.joins(2), 14);
        due("19: on what is bought", x.joins(3), 14);
        due("19: WAYS", x.joins(4), 2);
        due("19: below", x.joins(-1), BAD);
        due("19: above", x.joins(5), BAD);
        due("19: far below", x.joins(Checks.LEAST), BAD);
    }

    private static void leastUsesOtherSites() {
        BuyAsAsked x = withSites(10);
        for (int s = 0; s < 9; s++) {
            x.way(9, s, 6);
            for (int t = 0; t < s; t++) {
                x.way(s, t, 10);
            }
        }
        for (int s = 0; s < 9; s++) {
            x.call(s);
        }
        due("19: all over one", x.joins(1), 54);
    }

    private static void leastOfManyOthers() {
        BuyAsAsked x = withSites(10);
        x.way(0, 4, 5);
        x.way(1, 4, 5);
        x.way(2, 5, 5);
        x.way(3, 5, 5);
        x.way(4, 6, 1);
        x.way(6, 5, 1);
        x.way(0, 1, 9);
        x.way(1, 2, 11);
        x.way(2, 3, 9);
        for (int s = 0; s < 4; s++) {
            x.call(s);
        }
        due("19: over three others", x.joins(1), 22);
        BuyAsAsked y = withSites(10);
        for (int s = 0; s < 9; s++) {
            y.way(s, s + 1, 1000);
        }
        y.call(0);
        y.call(9);
        due("19: the longest row", y.joins(1), 9000);
        due("19: what it cost", y.joins(0), 9000);
    }

    private static void leastFollowsTheLengths() {
        BuyAsAsked x = withSites(3);
        x.way(0, 1, 8);
        x.way(1, 2, 9);
        x.call(0);
        x.call(1);
        x.call(2);
        due("19: as bought", x.joins(1), 17);
        x.way(0, 2, 1);
        due("19: with a WAY that came later", x.joins(1), 9);
        due("19: what is paid stays", x.joins(0), 17);
    }
}
