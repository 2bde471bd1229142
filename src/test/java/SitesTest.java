/** Promises 16 to 19. */
public final class SitesTest {
    private static final int BAD = Checks.BAD, STATE = Checks.STATE, FULL = Checks.FULL, NONE = Checks.NONE;
    private static final int LEAST = Checks.LEAST, MOST = Checks.MOST;

    public static void main(String[] args) {
        Cases.run(SitesTest.class, 16, 19);
    }

    private static void due(long got, long want) {
        Cases.due(got, want);
    }

    /** The WAYS are given by two SITES and a length, in turns. */
    private static BuyAsAsked with(int sites, int... ways) {
        BuyAsAsked x = new BuyAsAsked();
        for (int s = 0; s < sites; s++) {
            x.site();
        }
        for (int k = 0; k + 2 < ways.length; k += 3) {
            x.way(ways[k], ways[k + 1], ways[k + 2]);
        }
        return x;
    }

    private static BuyAsAsked withTen() {
        return with(10);
    }

    /** SITES in one row, from 0 to 9. */
    private static BuyAsAsked withARow(int length) {
        BuyAsAsked x = withTen();
        for (int s = 0; s < 9; s++) {
            x.way(s, s + 1, length);
        }
        return x;
    }

    private static int bits(int... sites) {
        int bits = 0;
        for (int s : sites) {
            bits |= 1 << s;
        }
        return bits;
    }

    // ---- promise 16

    static void p16NumbersGoFrom0To9() {
        BuyAsAsked x = new BuyAsAsked();
        for (int s = 0; s < 10; s++) {
            due(x.site(), s);
            due(x.count(5), s + 1);
        }
    }

    static void p16AnEleventhIsFull() {
        Cases.refused(SitesTest::withTen, BuyAsAsked::site, FULL);
    }

    static void p16AfterACallToo() {
        BuyAsAsked x = Cases.inUse();
        due(x.site(), 5);
        due(x.call(5), NONE);
        due(x.way(5, 3, 4), 0);
        due(x.call(5), 5);
    }

    // ---- promise 17

    static void p17SiteBelow0IsBad() {
        Cases.bad((x, n) -> x.way(n, 1, 5), -1, LEAST);
        Cases.bad((x, n) -> x.way(1, n, 5), -1, LEAST);
    }

    static void p17NoSuchSiteIsBad() {
        Cases.bad((x, n) -> x.way(n, 1, 5), 5, 9, 10, MOST);
        Cases.bad((x, n) -> x.way(1, n, 5), 5, 9, 10, MOST);
    }

    static void p17LikeOnesAreBad() {
        Cases.bad((x, n) -> x.way(n, n, 5), 0, 3, 4);
    }

    static void p17LengthBelow1IsBad() {
        Cases.bad((x, n) -> x.way(2, 3, n), 0, -1, LEAST);
    }

    static void p17LengthAbove1000IsBad() {
        Cases.bad((x, n) -> x.way(2, 3, n), 1001, MOST);
    }

    static void p17BoughtIsState() {
        Cases.refused(Cases::inUse, x -> x.way(0, 1, 2), STATE);
        Cases.refused(Cases::inUse, x -> x.way(1, 2, 1000), STATE);
    }

    static void p17BoughtIsStateTheOtherWayRound() {
        Cases.refused(Cases::inUse, x -> x.way(1, 0, 2), STATE);
        Cases.refused(Cases::inUse, x -> x.way(2, 1, 7), STATE);
    }

    static void p17AllThatAreBoughtAreState() {
        BuyAsAsked x = with(4, 0, 1, 4, 0, 2, 5, 0, 3, 6);
        for (int s = 0; s < 4; s++) {
            x.call(s);
        }
        for (int s = 1; s < 4; s++) {
            due(x.way(0, s, 9), STATE);
            due(x.way(s, 0, 9), STATE);
        }
    }

    static void p17BadGoesAheadOfState() {
        Cases.refused(Cases::inUse, x -> x.way(0, 1, 0), BAD);
        Cases.refused(Cases::inUse, x -> x.way(1, 0, 1001), BAD);
    }

    static void p17NoneWasThere() {
        BuyAsAsked x = withTen();
        due(x.way(0, 9, 1), 0);
        due(x.way(9, 8, 1000), 0);
        due(x.count(6), 2);
    }

    static void p17WhatItWas() {
        BuyAsAsked x = with(2, 0, 1, 1);
        due(x.way(0, 1, 1000), 1);
        due(x.way(0, 1, 5), 1000);
        due(x.way(0, 1, 5), 5);
        due(x.count(6), 1);
    }

    static void p17TheOtherWayRoundItIsTheSame() {
        BuyAsAsked x = with(2, 0, 1, 7);
        due(x.way(1, 0, 9), 7);
        due(x.way(0, 1, 4), 9);
        due(x.count(6), 1);
    }

    static void p17LeastAndMostLength() {
        BuyAsAsked x = with(3, 0, 1, 1, 1, 2, 1000);
        x.call(0);
        due(x.call(1), 1);
        due(x.call(2), 1000);
    }

    static void p17AllBetweenTen() {
        BuyAsAsked x = withTen();
        for (int a = 0; a < 10; a++) {
            for (int b = 0; b < a; b++) {
                due(x.way(a, b, 1 + a + b), 0);
            }
        }
        due(x.count(6), 45);
    }

    static void p17NotBoughtBetweenSitesOnWhatIsBought() {
        BuyAsAsked x = Cases.inUse();
        due(x.way(0, 2, 5), 0);
        due(x.way(2, 0, 6), 5);
        due(x.joins(4), 2);
    }

    static void p17WhatIsRefusedLeavesTheLength() {
        BuyAsAsked x = with(2, 0, 1, 7);
        due(x.way(0, 1, 0), BAD);
        due(x.way(1, 0, 1001), BAD);
        due(x.way(0, 1, 3), 7);
    }

    static void p17ItIsBoughtForWhatItIsNow() {
        BuyAsAsked x = with(2, 0, 1, 7);
        x.call(0);
        x.way(0, 1, 4);
        due(x.call(1), 4);
    }

    // ---- promise 18

    static void p18SiteBelow0IsBad() {
        Cases.bad(BuyAsAsked::call, -1, LEAST);
    }

    static void p18NoSuchSiteIsBad() {
        Cases.bad(BuyAsAsked::call, 5, 9, 10, MOST);
    }

    static void p18JoinedIsState() {
        Cases.refused(Cases::inUse, x -> x.call(0), STATE);
        Cases.refused(Cases::inUse, x -> x.call(2), STATE);
    }

    static void p18NoRowIsNone() {
        Cases.refused(Cases::inUse, x -> x.call(4), NONE);
    }

    static void p18NoRowThatLeadsThereIsNone() {
        BuyAsAsked x = with(4, 0, 1, 3, 2, 3, 3);
        x.call(0);
        due(x.call(2), NONE);
        due(x.call(2), NONE);
        due(x.joins(2), bits(0));
        due(x.joins(3), bits(0));
        due(x.joins(4), 0);
    }

    static void p18AWayThatComesLaterLeadsThere() {
        BuyAsAsked x = with(3, 1, 2, 3);
        x.call(0);
        due(x.call(2), NONE);
        x.way(0, 1, 4);
        due(x.call(2), 7);
        due(x.call(2), STATE);
    }

    static void p18TheFirstOneIsForNothing() {
        BuyAsAsked x = with(10, 0, 9, 5);
        due(x.call(9), 0);
        due(x.joins(0), 0);
        due(x.joins(2), bits(9));
        due(x.joins(3), bits(9));
        due(x.joins(4), 0);
        due(x.call(9), STATE);
    }

    static void p18TheFirstOneNeedsNoWays() {
        BuyAsAsked x = with(1);
        due(x.call(0), 0);
        due(x.joins(2), bits(0));
    }

    static void p18OneOnBoughtWaysIsForNothing() {
        BuyAsAsked x = Cases.inUse();
        due(x.call(1), 0);
        due(x.joins(2), bits(0, 1, 2));
        due(x.joins(4), 2);
        due(x.call(1), STATE);
    }

    static void p18OneThatHangsOnWhatIsBought() {
        BuyAsAsked x = with(4, 0, 1, 2, 1, 2, 3, 1, 3, 4, 3, 2, 5);
        x.call(0);
        x.call(2);
        due(x.call(3), 4);
        due(x.joins(3), bits(0, 1, 2, 3));
        due(x.joins(4), 3);
    }

    static void p18LeastCostOverManyWays() {
        BuyAsAsked x = with(4, 0, 1, 1, 1, 2, 1, 2, 3, 1, 0, 3, 4);
        x.call(0);
        due(x.call(3), 3);
        due(x.joins(4), 3);
    }

    static void p18LeastCostGoesAheadOfFewestWays() {
        BuyAsAsked x = with(5, 4, 0, 1000, 0, 1, 1000, 1, 3, 1000, 3, 2, 999, 4, 2, 1000);
        x.call(2);
        due(x.call(1), 1999);
        due(x.joins(3), bits(1, 2, 3));
    }

    static void p18FewestWaysGoAheadOfLeastSites() {
        BuyAsAsked x = with(5, 4, 0, 2, 0, 1, 2, 1, 3, 2, 4, 2, 3, 2, 3, 3);
        x.call(3);
        due(x.call(4), 6);
        due(x.joins(3), bits(2, 3, 4));
        BuyAsAsked y = with(4, 3, 0, 1, 0, 1, 1, 3, 1, 2);
        y.call(1);
        due(y.call(3), 2);
        due(y.joins(3), bits(1, 3));
    }

    static void p18FewestOfNineWays() {
        BuyAsAsked x = withARow(1);
        x.way(0, 9, 9);
        x.call(9);
        due(x.call(0), 9);
        due(x.joins(4), 1);
        BuyAsAsked y = withARow(1);
        y.way(0, 9, 10);
        y.call(9);
        due(y.call(0), 9);
        due(y.joins(4), 9);
    }

    static void p18LeastCostGoesAheadOfNineWays() {
        BuyAsAsked x = withARow(1);
        x.way(0, 9, 10);
        x.call(0);
        due(x.call(9), 9);
        due(x.joins(4), 9);
    }

    static void p18OnlyOverWaysThatAreThere() {
        BuyAsAsked x = with(4, 3, 2, 2, 2, 0, 2, 1, 0, 4);
        x.call(0);
        due(x.call(3), 4);
        due(x.joins(3), bits(0, 2, 3));
        due(x.way(3, 1, 9), 0);
    }

    static void p18LeastSitesFromTheCalledOneOn() {
        BuyAsAsked x = with(8, 7, 3, 2, 7, 2, 2, 3, 0, 2, 2, 6, 2, 2, 5, 2, 0, 1, 2, 6, 1, 2, 5, 1, 2);
        x.call(1);
        due(x.call(7), 6);
        due(x.joins(3), bits(7, 2, 5, 1));
    }

    static void p18LeastSitesAtTheEndOfTheRow() {
        BuyAsAsked x = with(4, 3, 2, 4, 3, 1, 4, 1, 2, 1);
        x.call(1);
        x.call(2);
        due(x.call(3), 4);
        due(x.way(3, 1, 5), STATE);
        due(x.way(3, 2, 5), 4);
    }

    static void p18TheRowEndsAtWhatIsBought() {
        BuyAsAsked x = with(5, 0, 1, 10, 1, 2, 10, 2, 3, 1, 3, 0, 12, 1, 4, 3, 4, 0, 3);
        x.call(0);
        due(x.call(2), 13);
        due(x.joins(3), bits(0, 2, 3));
        due(x.call(4), 3);
        due(x.joins(3), bits(0, 2, 3, 4));
    }

    static void p18TheLongestRow() {
        BuyAsAsked x = withARow(1000);
        x.call(0);
        due(x.call(9), 9000);
        due(x.joins(3), 1023);
        due(x.joins(4), 9);
    }

    // ---- promise 19

    static void p19WhatBelow0IsBad() {
        Cases.bad(BuyAsAsked::joins, -1, LEAST);
    }

    static void p19WhatAbove4IsBad() {
        Cases.bad(BuyAsAsked::joins, 5, 6, MOST);
    }

    static void p19WithoutCallsAllAre0() {
        BuyAsAsked x = withARow(3);
        for (int what = 0; what < 5; what++) {
            due(x.joins(what), 0);
        }
    }

    static void p19EachOfThem() {
        BuyAsAsked x = Cases.inUse();
        int[] want = {5, 5, bits(0, 2), bits(0, 1, 2), 2};
        for (int what = 0; what < want.length; what++) {
            due(x.joins(what), want[what]);
        }
    }

    static void p19BestOfOneIs0() {
        BuyAsAsked x = withARow(3);
        x.call(4);
        due(x.joins(1), 0);
    }

    static void p19BestOfTwo() {
        BuyAsAsked x = with(3, 0, 1, 4, 0, 2, 4, 1, 2, 9);
        x.call(1);
        x.call(2);
        due(x.joins(1), 8);
    }

    static void p19BestOverAnotherSite() {
        BuyAsAsked x = with(4, 0, 1, 4, 0, 2, 4, 0, 3, 4, 1, 2, 7, 2, 3, 7);
        x.call(1);
        x.call(2);
        due(x.joins(1), 7);
        x.call(3);
        due(x.joins(0), 14);
        due(x.joins(1), 12);
        due(x.joins(3), bits(1, 2, 3));
    }

    static void p19BestOverOneOfTen() {
        BuyAsAsked x = withTen();
        for (int s = 0; s < 9; s++) {
            x.way(9, s, 6);
            for (int t = 0; t < s; t++) {
                x.way(s, t, 10);
            }
        }
        for (int s = 0; s < 9; s++) {
            x.call(s);
        }
        due(x.joins(0), 80);
        due(x.joins(1), 54);
    }

    static void p19BestOverThreeOthers() {
        BuyAsAsked x = with(7, 0, 4, 5, 1, 4, 5, 2, 5, 5, 3, 5, 5, 4, 6, 1, 6, 5, 1, 0, 1, 9, 1, 2, 11, 2, 3, 9);
        for (int s = 0; s < 4; s++) {
            x.call(s);
        }
        due(x.joins(1), 22);
    }

    static void p19BestOverTheLongestRow() {
        BuyAsAsked x = withARow(1000);
        x.call(0);
        x.call(9);
        due(x.joins(0), 9000);
        due(x.joins(1), 9000);
    }

    static void p19AllTenJoined() {
        BuyAsAsked x = withARow(1000);
        for (int s = 0; s < 10; s++) {
            due(x.call(s), s == 0 ? 0 : 1000);
        }
        due(x.joins(1), 9000);
        due(x.joins(2), 1023);
        due(x.joins(3), 1023);
        due(x.joins(4), 9);
    }

    static void p19BestFromTheLastSiteToTheFirst() {
        BuyAsAsked x = withARow(1000);
        x.call(9);
        x.call(0);
        due(x.joins(1), 9000);
        BuyAsAsked y = withARow(1000);
        for (int s = 9; s >= 0; s--) {
            y.call(s);
        }
        due(y.joins(1), 9000);
    }

    static void p19BestFollowsAWayThatComesLater() {
        BuyAsAsked x = with(3, 0, 1, 8, 1, 2, 9);
        x.call(0);
        x.call(1);
        x.call(2);
        due(x.joins(1), 17);
        x.way(0, 2, 1);
        due(x.joins(1), 9);
        due(x.joins(0), 17);
    }

    static void p19ACallThatIsNoneIsNotJoined() {
        BuyAsAsked x = Cases.inUse();
        due(x.call(4), NONE);
        due(x.joins(1), 5);
        due(x.joins(2), bits(0, 2));
    }

    static void p19JoinedAreOnWhatIsBoughtToo() {
        BuyAsAsked x = with(2, 0, 1, 5);
        x.call(1);
        due(x.joins(3), bits(1));
        due(x.joins(4), 0);
    }
}
