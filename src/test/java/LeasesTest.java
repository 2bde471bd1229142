/** Promises 12 to 15. */
public final class LeasesTest {
    private static final int BAD = Checks.BAD, STATE = Checks.STATE, FULL = Checks.FULL;
    private static final int LEAST = Checks.LEAST, MOST = Checks.MOST;

    public static void main(String[] args) {
        Cases.run(LeasesTest.class, 12, 15);
    }

    private static void due(long got, long want) {
        Cases.due(got, want);
    }

    /** The LEASES are given by length and cost, in turns. */
    private static BuyAsAsked with(int... leases) {
        BuyAsAsked x = new BuyAsAsked();
        for (int k = 0; k + 1 < leases.length; k += 2) {
            x.lease(leases[k], leases[k + 1]);
        }
        return x;
    }

    private static BuyAsAsked withSeven() {
        return with(7, 3);
    }

    private static BuyAsAsked withFour() {
        return with(1, 2, 2, 3, 4, 5, 8, 6);
    }

    private static BuyAsAsked withFourAsked() {
        BuyAsAsked x = withFour();
        x.day(0);
        return x;
    }

    // ---- promise 12

    static void p12LengthBelow1IsBad() {
        Cases.bad((x, n) -> x.lease(n, 1), 0, -1, LEAST);
    }

    static void p12LengthAbove64IsBad() {
        Cases.bad((x, n) -> x.lease(n, 1), 65, 128, MOST);
    }

    static void p12CostBelow1IsBad() {
        Cases.bad((x, n) -> x.lease(1, n), 0, -1, LEAST);
    }

    static void p12CostAbove1000IsBad() {
        Cases.bad((x, n) -> x.lease(1, n), 1001, MOST);
    }

    static void p12LeastLengthAndCost() {
        BuyAsAsked x = with();
        due(x.lease(1, 1), 0);
        due(x.day(0), 1);
        due(x.covered(1), 0);
    }

    static void p12MostLengthAndCost() {
        BuyAsAsked x = with();
        due(x.lease(64, 1000), 0);
        due(x.day(0), 1000);
        due(x.covered(63), 1);
        due(x.covered(64), 0);
    }

    static void p12NumbersGoFrom0To3() {
        BuyAsAsked x = with();
        for (int k = 0; k < 4; k++) {
            due(x.lease(1 << 2 * k, 9), k);
            due(x.count(4), k + 1);
        }
    }

    static void p12TheSameLengthIsState() {
        Cases.refused(LeasesTest::withSeven, x -> x.lease(7, 3), STATE);
        Cases.refused(LeasesTest::withSeven, x -> x.lease(7, 9), STATE);
    }

    static void p12AShorterOneIsState() {
        Cases.refused(LeasesTest::withSeven, x -> x.lease(1, 3), STATE);
        Cases.refused(LeasesTest::withSeven, x -> x.lease(6, 3), STATE);
    }

    static void p12NoMultipleIsState() {
        for (int length : new int[] {8, 13, 15, 20, 22, 62, 64}) {
            Cases.refused(LeasesTest::withSeven, x -> x.lease(length, 3), STATE);
        }
    }

    static void p12AMultipleOfTheFirstButNotOfTheOneAheadIsState() {
        Cases.refused(() -> with(7, 3, 14, 5), x -> x.lease(21, 6), STATE);
        Cases.refused(() -> with(7, 3, 14, 5), x -> x.lease(35, 6), STATE);
    }

    static void p12TwiceTheOneAhead() {
        BuyAsAsked x = withSeven();
        due(x.lease(14, 3), 1);
        due(x.lease(28, 3), 2);
        due(x.lease(56, 3), 3);
    }

    static void p12ThriceTheOneAhead() {
        BuyAsAsked x = withSeven();
        due(x.lease(21, 3), 1);
        due(x.lease(63, 3), 2);
    }

    static void p12FromTheLeastLengthToTheMost() {
        BuyAsAsked x = with(1, 1);
        due(x.lease(64, 1), 1);
        due(x.lease(64, 1), STATE);
    }

    static void p12ADearerOrCheaperOneMayFollow() {
        BuyAsAsked x = with(1, 1000);
        due(x.lease(2, 1), 1);
        due(x.lease(4, 1), 2);
        due(x.lease(8, 1000), 3);
    }

    static void p12AFifthIsFull() {
        Cases.refused(LeasesTest::withFour, x -> x.lease(16, 1), FULL);
        Cases.refused(LeasesTest::withFour, x -> x.lease(64, 1), FULL);
    }

    static void p12StateGoesAheadOfFull() {
        Cases.refused(LeasesTest::withFour, x -> x.lease(8, 1), STATE);
        Cases.refused(LeasesTest::withFour, x -> x.lease(12, 1), STATE);
        Cases.refused(LeasesTest::withFourAsked, x -> x.lease(16, 1), STATE);
    }

    static void p12BadGoesAheadOfStateAndFull() {
        Cases.refused(LeasesTest::withFour, x -> x.lease(16, 0), BAD);
        Cases.refused(LeasesTest::withFour, x -> x.lease(8, 1001), BAD);
        Cases.refused(LeasesTest::withFour, x -> x.lease(0, 1), BAD);
        Cases.refused(LeasesTest::withFourAsked, x -> x.lease(65, 1), BAD);
    }

    static void p12AfterADayIsState() {
        Cases.refused(Cases::inUse, x -> x.lease(12, 1), STATE);
        Cases.refused(Cases::inUse, x -> x.lease(2, 3), STATE);
    }

    static void p12ARefusedDayLeavesItOpen() {
        BuyAsAsked x = with();
        due(x.day(0), STATE);
        due(x.lease(1, 3), 0);
        due(x.day(128), BAD);
        due(x.day(-1), BAD);
        due(x.lease(2, 3), 1);
    }

    // ---- promise 13

    static void p13DayBelow0IsBad() {
        Cases.bad(BuyAsAsked::day, -1, LEAST);
    }

    static void p13DayAbove127IsBad() {
        Cases.bad(BuyAsAsked::day, 128, 129, MOST);
    }

    static void p13WithoutLeasesIsState() {
        for (int d : new int[] {0, 64, 127}) {
            Cases.refused(BuyAsAsked::new, x -> x.day(d), STATE);
        }
    }

    static void p13AsLateIsState() {
        Cases.refused(Cases::inUse, x -> x.day(4), STATE);
    }

    static void p13EarlierIsState() {
        Cases.refused(Cases::inUse, x -> x.day(3), STATE);
        Cases.refused(Cases::inUse, x -> x.day(0), STATE);
    }

    static void p13FirstDay() {
        BuyAsAsked x = with(1, 4);
        due(x.day(0), 4);
        due(x.day(0), STATE);
        due(x.day(1), 4);
    }

    static void p13NothingComesBehindTheLastDay() {
        BuyAsAsked x = with(1, 4);
        due(x.day(127), 4);
        due(x.day(127), STATE);
        due(x.day(126), STATE);
        due(x.day(128), BAD);
        due(x.leases(3), 1);
    }

    static void p13AllDays() {
        BuyAsAsked x = with(1, 1000);
        for (int d = 0; d < 128; d++) {
            due(x.day(d), 1000);
        }
        due(x.leases(0), 128000);
        due(x.leases(1), 128000);
        due(x.leases(2), 128000);
        due(x.leases(3), 128);
        due(x.leases(4), 128);
    }

    static void p13ACoveredDayIsNothing() {
        BuyAsAsked x = with(4, 5);
        due(x.day(4), 5);
        due(x.day(5), 0);
        due(x.day(7), 0);
        due(x.leases(1), 5);
        due(x.leases(3), 3);
        due(x.leases(4), 1);
    }

    static void p13ACoveredDayIsAskedToo() {
        BuyAsAsked x = with(4, 5);
        x.day(4);
        x.day(6);
        due(x.day(6), STATE);
        due(x.day(5), STATE);
    }

    static void p13ASpanBeginsAndEndsAtMultiples() {
        BuyAsAsked x = with(5, 3);
        due(x.day(4), 3);
        due(x.day(5), 3);
        due(x.day(9), 0);
        due(x.day(10), 3);
    }

    static void p13ASpanMayGoBeyondTheDays() {
        BuyAsAsked x = with(48, 6);
        due(x.day(95), 6);
        due(x.day(96), 6);
        due(x.day(127), 0);
    }

    static void p13AllSpansThatAreTightThenAreBought() {
        BuyAsAsked x = with(1, 4, 2, 8, 4, 8);
        due(x.day(0), 4);
        due(x.day(1), 4 + 8 + 8);
        due(x.leases(4), 4);
        due(x.day(3), 0);
    }

    static void p13OneShortOfTightIsNotBought() {
        BuyAsAsked x = with(1, 4, 2, 9);
        due(x.day(0), 4);
        due(x.day(1), 4);
        due(x.leases(4), 2);
        BuyAsAsked y = with(1, 4, 4, 9);
        y.day(0);
        y.day(1);
        due(y.day(2), 9);
        due(y.leases(1), 9);
    }

    static void p13AnotherSpanIsFilledAnew() {
        BuyAsAsked x = with(1, 4, 4, 9);
        x.day(2);
        x.day(3);
        due(x.day(4), 4);
        due(x.day(5), 4);
        due(x.day(6), 9);
    }

    static void p13ALongOneMayBeCheaper() {
        BuyAsAsked x = with(1, 9, 64, 2);
        due(x.day(70), 2);
        due(x.leases(4), 1);
        due(x.day(127), 0);
    }

    static void p13FourLeases() {
        BuyAsAsked x = with(1, 2, 2, 3, 4, 5, 64, 6);
        int[] paid = {2, 3, 2 + 5, 0, 6};
        for (int d = 0; d < paid.length; d++) {
            Cases.due("day " + d, x.day(d), paid[d]);
        }
    }

    // ---- promise 14

    static void p14WhatBelow0IsBad() {
        Cases.bad(BuyAsAsked::leases, -1, LEAST);
    }

    static void p14WhatAbove4IsBad() {
        Cases.bad(BuyAsAsked::leases, 5, 6, MOST);
    }

    static void p14WithoutDaysAllAre0() {
        BuyAsAsked x = withFour();
        for (int what = 0; what < 5; what++) {
            due(x.leases(what), 0);
        }
    }

    static void p14EachOfThem() {
        BuyAsAsked x = with(1, 3, 4, 8);
        for (int d = 0; d < 4; d++) {
            x.day(d);
        }
        int[] want = {3 + 3 + 8, 8, 8, 4, 3};
        for (int what = 0; what < want.length; what++) {
            due(x.leases(what), want[what]);
        }
    }

    static void p14BestOfOneDay() {
        BuyAsAsked x = with(1, 7, 64, 6);
        x.day(0);
        due(x.leases(2), 6);
        BuyAsAsked y = with(1, 6, 64, 7);
        y.day(127);
        due(y.leases(2), 6);
    }

    static void p14BestGrowsFromShortToLong() {
        BuyAsAsked x = with(2, 5, 8, 12);
        int[] days = {1, 3, 6, 9};
        int[] best = {5, 10, 12, 17};
        for (int k = 0; k < days.length; k++) {
            x.day(days[k]);
            Cases.due("day " + days[k], x.leases(2), best[k]);
        }
    }

    static void p14BestAtTheEdgeOfTwoSpans() {
        BuyAsAsked x = with(64, 1000);
        x.day(63);
        due(x.leases(2), 1000);
        x.day(64);
        due(x.leases(2), 2000);
        x.day(127);
        due(x.leases(2), 2000);
    }

    static void p14BestOfASpanBeyondTheDays() {
        BuyAsAsked x = with(12, 4, 48, 9);
        x.day(96);
        x.day(108);
        due(x.leases(2), 8);
        x.day(120);
        due(x.leases(2), 9);
    }

    static void p14BestLeavesOutBoughtSpans() {
        BuyAsAsked x = with(1, 4, 2, 5, 4, 100);
        x.day(0);
        due(x.leases(2), 4);
        x.day(1);
        due(x.leases(0), 4 + 5);
        due(x.leases(2), 5);
    }

    static void p14BestOfFourLeases() {
        BuyAsAsked x = with(1, 2, 2, 3, 4, 5, 64, 6);
        int[] best = {2, 3, 5, 5, 6};
        for (int d = 0; d < best.length; d++) {
            x.day(d);
            Cases.due("day " + d, x.leases(2), best[d]);
        }
    }

    static void p14ARefusedDayIsNotAsked() {
        BuyAsAsked x = with(1, 4);
        x.day(5);
        due(x.day(5), STATE);
        due(x.day(4), STATE);
        due(x.day(128), BAD);
        due(x.leases(3), 1);
        due(x.leases(2), 4);
    }

    // ---- promise 15

    static void p15DayBelow0IsBad() {
        Cases.bad(BuyAsAsked::covered, -1, LEAST);
    }

    static void p15DayAbove127IsBad() {
        Cases.bad(BuyAsAsked::covered, 128, 129, MOST);
    }

    static void p15WithoutBoughtSpansNoneIs() {
        BuyAsAsked x = withFour();
        for (int d : new int[] {0, 63, 64, 127}) {
            due(x.covered(d), 0);
        }
    }

    private static void coveredAre(BuyAsAsked x, int from, int end) {
        for (int d = 0; d < 128; d++) {
            Cases.due("covered(" + d + ")", x.covered(d), from <= d && d < end ? 1 : 0);
        }
    }

    static void p15FromTheFirstDayOfASpanToItsLast() {
        BuyAsAsked x = with(3, 2);
        x.day(4);
        coveredAre(x, 3, 6);
    }

    static void p15ASpanOfOneDay() {
        BuyAsAsked x = with(1, 2);
        x.day(5);
        coveredAre(x, 5, 6);
    }

    static void p15TheFirstSpan() {
        BuyAsAsked x = with(64, 2);
        x.day(63);
        coveredAre(x, 0, 64);
    }

    static void p15ASpanCutByTheLastDay() {
        BuyAsAsked x = with(3, 2);
        x.day(127);
        coveredAre(x, 126, 128);
        BuyAsAsked y = with(48, 2);
        y.day(100);
        coveredAre(y, 96, 128);
    }

    static void p15ByTheLongestThatIsBought() {
        BuyAsAsked x = with(1, 4, 2, 4, 8, 4);
        x.day(9);
        coveredAre(x, 8, 16);
    }

    static void p15AnAskedDayIsAlwaysCovered() {
        BuyAsAsked x = with(2, 3, 6, 7);
        for (int d = 1; d < 128; d += 3) {
            x.day(d);
            due(x.covered(d), 1);
        }
    }
}
