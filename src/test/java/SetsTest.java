/** Promises 6 to 11. */
public final class SetsTest {
    private static final int BAD = Checks.BAD, STATE = Checks.STATE, FULL = Checks.FULL;
    private static final int NULL = Checks.NULL, PLACE = Checks.PLACE;
    private static final int LEAST = Checks.LEAST, MOST = Checks.MOST;

    public static void main(String[] args) {
        Cases.run(SetsTest.class, 6, 11);
    }

    private static void due(long got, long want) {
        Cases.due(got, want);
    }

    /** The SETS are given by cost and THINGS, in turns. */
    private static BuyAsAsked with(int... sets) {
        BuyAsAsked x = new BuyAsAsked();
        for (int k = 0; k + 1 < sets.length; k += 2) {
            x.offer(sets[k], sets[k + 1]);
        }
        return x;
    }

    /** Ten SETS of cost 100, each with a THING of its own. */
    private static BuyAsAsked withTen() {
        BuyAsAsked x = new BuyAsAsked();
        for (int set = 0; set < 10; set++) {
            x.offer(100, 1 << set);
        }
        return x;
    }

    // ---- promise 6

    static void p06CostBelow1IsBad() {
        Cases.bad((x, n) -> x.offer(n, 1), 0, -1, LEAST);
    }

    static void p06CostAbove1000IsBad() {
        Cases.bad((x, n) -> x.offer(n, 1), 1001, MOST);
    }

    static void p06NoThingsAreBad() {
        Cases.bad((x, n) -> x.offer(5, n), 0);
    }

    static void p06ThingsBelow0AreBad() {
        Cases.bad((x, n) -> x.offer(5, n), -1, -4095, LEAST);
    }

    static void p06ThingsAbove4095AreBad() {
        Cases.bad((x, n) -> x.offer(5, n), 4096, 4097, 8191, MOST);
    }

    static void p06LeastCostAndThings() {
        BuyAsAsked x = with();
        due(x.offer(1, 1), 0);
        due(x.told(0, 0), 1);
        due(x.told(0, 1), 1);
    }

    static void p06MostCostAndThings() {
        BuyAsAsked x = with();
        due(x.offer(1000, 4095), 0);
        due(x.told(0, 0), 1000);
        due(x.told(0, 1), 4095);
    }

    static void p06NumbersGoFrom0To9() {
        BuyAsAsked x = with();
        for (int set = 0; set < 10; set++) {
            due(x.offer(5 + set, 1 << set), set);
            due(x.count(1), set + 1);
        }
    }

    static void p06TheSameAgainIsAnotherSet() {
        BuyAsAsked x = with(5, 3);
        due(x.offer(5, 3), 1);
        due(x.count(1), 2);
    }

    static void p06AnEleventhIsFull() {
        Cases.refused(SetsTest::withTen, x -> x.offer(5, 1), FULL);
    }

    static void p06BadGoesAheadOfFull() {
        Cases.refused(SetsTest::withTen, x -> x.offer(0, 1), BAD);
        Cases.refused(SetsTest::withTen, x -> x.offer(5, 4096), BAD);
    }

    private static BuyAsAsked withTenDemanded() {
        BuyAsAsked x = withTen();
        x.demand(3);
        return x;
    }

    static void p06StateGoesAheadOfFull() {
        Cases.refused(SetsTest::withTenDemanded, x -> x.offer(5, 1), STATE);
    }

    static void p06BadGoesAheadOfState() {
        Cases.refused(SetsTest::withTenDemanded, x -> x.offer(1001, 1), BAD);
        Cases.refused(Cases::inUse, x -> x.offer(5, 0), BAD);
    }

    static void p06OfADemandedThingIsState() {
        Cases.refused(Cases::inUse, x -> x.offer(5, 1), STATE);
        Cases.refused(Cases::inUse, x -> x.offer(5, 4095), STATE);
    }

    static void p06OfAnotherThingIsStateToo() {
        Cases.refused(Cases::inUse, x -> x.offer(5, 1 << 11), STATE);
    }

    static void p06AfterDemandsOfASheetIsState() {
        BuyAsAsked x = with(5, 1);
        x.sheet(0, 0, 1);
        x.demands(0, 0, 1);
        due(x.offer(5, 2), STATE);
    }

    static void p06ARefusedDemandLeavesItOpen() {
        BuyAsAsked x = with(5, 1);
        due(x.demand(1), STATE);
        due(x.demand(12), BAD);
        due(x.offer(6, 2), 1);
    }

    static void p06DemandsPassedOverLeaveItOpen() {
        BuyAsAsked x = with(5, 2);
        x.sheet(0, 0, 3);
        due(x.demands(0, 0, 3), 0);
        due(x.offer(6, 2), 1);
    }

    // ---- promise 7

    static void p07ThingBelow0IsBad() {
        Cases.bad(BuyAsAsked::demand, -1, LEAST);
    }

    static void p07ThingAbove11IsBad() {
        Cases.bad(BuyAsAsked::demand, 12, 31, 32, MOST);
    }

    static void p07WithoutSetsIsState() {
        Cases.refused(BuyAsAsked::new, x -> x.demand(0), STATE);
    }

    static void p07NoSetHasItIsState() {
        Cases.refused(Cases::inUse, x -> x.demand(6), STATE);
        Cases.refused(SetsTest::withTen, x -> x.demand(10), STATE);
    }

    static void p07FirstAndLastThing() {
        BuyAsAsked x = with(5, 1, 6, 1 << 11);
        due(x.demand(0), 5);
        due(x.demand(11), 6);
        due(x.covers(4), 1 | 1 << 11);
    }

    static void p07LeastCost() {
        BuyAsAsked x = with(1, 1);
        due(x.demand(0), 1);
        due(x.price(0), 1);
    }

    static void p07MostCost() {
        BuyAsAsked x = with(1000, 1);
        due(x.demand(0), 1000);
        due(x.price(0), 1000);
    }

    static void p07AgainIsNothing() {
        BuyAsAsked x = with(5, 1);
        x.demand(0);
        due(x.demand(0), 0);
        due(x.price(0), 5);
        due(x.covers(0), 5);
    }

    static void p07ABoughtSetHasItIsNothing() {
        BuyAsAsked x = with(5, 3, 1, 4);
        x.demand(0);
        due(x.demand(1), 0);
        due(x.price(1), 0);
        due(x.covers(0), 5);
        due(x.covers(4), 3);
    }

    static void p07WhatIsBoughtStays() {
        BuyAsAsked x = with(5, 3, 6, 12);
        x.demand(0);
        x.demand(2);
        due(x.demand(1), 0);
        due(x.demand(3), 0);
        due(x.covers(4), 15);
    }

    static void p07TheFirstThatIsTightIsBoughtAlone() {
        BuyAsAsked x = with(5, 1, 4, 1, 6, 1);
        due(x.demand(0), 4);
        due(x.covers(5), 0b010);
        due(x.price(0), 4);
    }

    static void p07AllThatAreTightThenAreBought() {
        BuyAsAsked x = with(4, 1, 4, 3, 4, 5, 5, 9);
        due(x.demand(0), 12);
        due(x.covers(5), 0b0111);
        due(x.covers(1), 4);
    }

    static void p07AllTenAtOnce() {
        BuyAsAsked x = new BuyAsAsked();
        for (int set = 0; set < 10; set++) {
            x.offer(1000, 4095);
        }
        due(x.demand(11), 10000);
        due(x.covers(5), 1023);
    }

    static void p07OneShortOfTightIsNotBought() {
        BuyAsAsked x = with(4, 1, 5, 3);
        due(x.demand(0), 4);
        due(x.told(1, 2), 4);
        due(x.told(1, 3), 0);
        due(x.demand(1), 5);
        due(x.price(1), 1);
    }

    static void p07SetsWithoutTheThingStayAsTheyAre() {
        BuyAsAsked x = with(4, 1, 4, 2);
        due(x.demand(0), 4);
        due(x.covers(5), 1);
        due(x.told(1, 2), 0);
    }

    static void p07EarlierPricesFillASet() {
        BuyAsAsked x = with(3, 1, 4, 2, 9, 7);
        due(x.demand(0), 3);
        due(x.demand(1), 4);
        due(x.demand(2), 9);
        due(x.price(2), 2);
        due(x.told(2, 2), 9);
    }

    static void p07FilledIsNeverMoreThanTheCost() {
        BuyAsAsked x = with(4, 3, 6, 5, 7, 6, 9, 15, 3, 8);
        for (int thing = 0; thing < 4; thing++) {
            x.demand(thing);
            for (int set = 0; set < 5; set++) {
                due(x.told(set, 2) <= x.told(set, 0) ? 1 : 0, 1);
                due(x.told(set, 3), x.told(set, 2) == x.told(set, 0) ? 1 : 0);
            }
        }
    }

    // ---- promise 8

    private static BuyAsAsked withItems() {
        BuyAsAsked x = with(10, 3, 4, 1, 7, 4);
        x.sheet(0, 0, 3);
        x.set(0, 1, 1);
        x.set(0, 2, 2);
        x.sheet(1, 2, 0);
        x.sheet(2, 1, 60);
        return x;
    }

    private static void found(Cases.Call call, int want) {
        Cases.refused(SetsTest::withItems, call, want);
    }

    static void p08SheetBelow0IsBad() {
        Cases.bad((x, n) -> x.demands(n, 0, 1), -1, LEAST);
    }

    static void p08SheetAbove7IsBad() {
        Cases.bad((x, n) -> x.demands(n, 0, 1), 8, 9, MOST);
    }

    static void p08NoThingsAreBad() {
        Cases.bad((x, n) -> x.demands(0, 0, n), 0, -1, LEAST);
    }

    static void p08MoreThanSixtyThingsAreBad() {
        Cases.bad((x, n) -> x.demands(2, 0, n), 61, 62, MOST);
    }

    static void p08BadGoesAheadOfFindings() {
        Cases.bad((x, n) -> x.demands(7, -1, n), 0, 61);
        Cases.bad((x, n) -> x.demands(n, -1, 1), -1, 8);
    }

    static void p08MissingIsNull() {
        found(x -> x.demands(3, 0, 1), NULL);
        found(x -> x.demands(7, 0, 60), NULL);
    }

    static void p08NullGoesAheadOfPlace() {
        found(x -> x.demands(3, -1, 1), NULL);
        found(x -> x.demands(3, 60, 1), NULL);
    }

    static void p08BelowTheFirstItemIsPlace() {
        found(x -> x.demands(0, -1, 1), PLACE);
        found(x -> x.demands(0, LEAST, 60), PLACE);
    }

    static void p08BeyondTheLastItemIsPlace() {
        found(x -> x.demands(0, 3, 1), PLACE);
        found(x -> x.demands(0, 1, 3), PLACE);
        found(x -> x.demands(0, 0, 4), PLACE);
        found(x -> x.demands(2, 1, 60), PLACE);
        found(x -> x.demands(0, MOST, 60), PLACE);
    }

    static void p08AnEmptySheetHasNoPlace() {
        found(x -> x.demands(1, 0, 1), PLACE);
    }

    static void p08OneThing() {
        BuyAsAsked x = withItems();
        due(x.demands(0, 2, 1), 7);
        due(x.covers(4), 4);
    }

    static void p08SixtyThings() {
        BuyAsAsked x = withItems();
        x.set(2, 59, 2);
        due(x.demands(2, 0, 60), 4 + 7);
        due(x.covers(4), 5);
    }

    static void p08UpToTheEnd() {
        BuyAsAsked x = withItems();
        due(x.demands(0, 1, 2), 10 + 7);
        due(x.covers(4), 6);
    }

    static void p08OneBehindTheOther() {
        BuyAsAsked x = withItems();
        due(x.demands(0, 0, 2), 4 + 10);
        due(x.price(0), 4);
        due(x.price(1), 6);
        BuyAsAsked y = withItems();
        y.set(0, 0, 1);
        y.set(0, 1, 0);
        due(y.demands(0, 0, 2), 10);
        due(y.price(0), 0);
        due(y.price(1), 10);
    }

    static void p08TheSameThingTwiceIsPaidOnce() {
        BuyAsAsked x = withItems();
        x.set(0, 2, 1);
        due(x.demands(0, 1, 2), 10);
        due(x.demands(0, 1, 2), 0);
    }

    static void p08ThoseThatWouldBeBadArePassedOver() {
        BuyAsAsked x = with(3, 1, 5, 1 << 11);
        int[] items = {12, -1, MOST, 11, LEAST, 32, BAD, 0, 12};
        x.sheet(0, 2, items.length);
        for (int i = 0; i < items.length; i++) {
            x.set(0, i, items[i]);
        }
        due(x.demands(0, 0, items.length), 8);
        due(x.covers(4), 1 | 1 << 11);
        due(x.status(), 0);
    }

    static void p08ThoseThatWouldBeStateArePassedOver() {
        BuyAsAsked x = with(5, 4);
        x.sheet(0, 0, 3);
        x.set(0, 1, 2);
        x.set(0, 2, 3);
        due(x.demands(0, 0, 3), 5);
        due(x.covers(4), 4);
        due(x.status(), 0);
    }

    static void p08AllPassedOver() {
        BuyAsAsked x = new BuyAsAsked();
        x.sheet(0, 0, 60);
        due(x.demands(0, 0, 60), 0);
        due(x.covers(4), 0);
        due(x.status(), 0);
    }

    // ---- promise 9

    static void p09WhatBelow0IsBad() {
        Cases.bad(BuyAsAsked::covers, -1, LEAST);
    }

    static void p09WhatAbove5IsBad() {
        Cases.bad(BuyAsAsked::covers, 6, 7, MOST);
    }

    static void p09EachOfThem() {
        BuyAsAsked x = with(6, 3, 9, 6, 8, 12);
        x.demand(1);
        x.demand(2);
        int[] want = {6 + 9, 6 + 3, 9, 2, 0b110, 0b011};
        for (int what = 0; what < want.length; what++) {
            due(x.covers(what), want[what]);
        }
    }

    static void p09WithoutDemandsAllAre0() {
        BuyAsAsked x = with(6, 3, 9, 4095);
        due(x.demand(12), BAD);
        for (int what = 0; what < 6; what++) {
            due(x.covers(what), 0);
        }
    }

    static void p09ARefusedDemandIsNone() {
        BuyAsAsked x = with(6, 3, 6, 3);
        due(x.demand(2), STATE);
        due(x.covers(2), 0);
        due(x.covers(3), 0);
        due(x.covers(4), 0);
    }

    static void p09BestTakesASetThatIsNotBought() {
        BuyAsAsked x = with(4, 0b0011, 9, 0b0101, 8, 0b1001, 10, 0b1100);
        due(x.demand(0), 4);
        due(x.demand(2), 9);
        due(x.demand(3), 8);
        due(x.covers(5), 0b0111);
        due(x.covers(2), 4 + 10);
    }

    static void p09BestLeavesOutBoughtSets() {
        BuyAsAsked x = with(4, 1, 5, 2, 6, 3);
        x.demand(0);
        x.demand(1);
        due(x.covers(2), 6);
        due(x.covers(0), 4 + 6);
    }

    static void p09BestIsOfTheDemandedAlone() {
        BuyAsAsked x = with(4, 1, 5, 2, 8, 3);
        x.demand(1);
        due(x.covers(2), 5);
        x.demand(0);
        due(x.covers(2), 8);
    }

    static void p09BestIsNotTheGreedyOne() {
        BuyAsAsked x = with(10, 0b111100, 6, 0b101011, 6, 0b010111, 1000, 4095);
        for (int thing = 0; thing < 6; thing++) {
            x.demand(thing);
        }
        due(x.covers(2), 12);
    }

    static void p09BestOfTenSets() {
        BuyAsAsked x = withTen();
        for (int thing = 0; thing < 10; thing++) {
            due(x.demand(thing), 100);
        }
        due(x.covers(2), 1000);
        due(x.covers(1), 1000);
        due(x.covers(5), 1023);
        BuyAsAsked y = new BuyAsAsked();
        for (int set = 0; set < 10; set++) {
            y.offer(1000, set == 9 ? 0b111 << 9 : 1 << set);
        }
        for (int thing = 0; thing < 12; thing++) {
            y.demand(thing);
        }
        due(y.covers(2), 10000);
        due(y.covers(4), 4095);
    }

    static void p09ShareIsOfTheDemandedAlone() {
        BuyAsAsked x = with(1, 3, 2, 3, 3, 6);
        x.demand(2);
        due(x.covers(3), 1);
        x.demand(0);
        due(x.covers(3), 2);
        x.demand(1);
        due(x.covers(3), 3);
    }

    static void p09ShareOfAllTen() {
        BuyAsAsked x = new BuyAsAsked();
        for (int set = 0; set < 10; set++) {
            x.offer(1 + set, 1 << 11 | 1 << set);
        }
        x.demand(5);
        due(x.covers(3), 1);
        x.demand(11);
        due(x.covers(3), 10);
    }

    static void p09TheSharesProveHowFarOffItIs() {
        BuyAsAsked x = with(7, 0b0111, 5, 0b1010, 5, 0b1100, 9, 0b1111, 3, 0b0001);
        for (int thing = 0; thing < 4; thing++) {
            x.demand(thing);
            due(x.covers(0) <= x.covers(3) * x.covers(1) ? 1 : 0, 1);
            due(x.covers(1) <= x.covers(2) ? 1 : 0, 1);
        }
    }

    // ---- promise 10

    static void p10SetBelow0IsBad() {
        Cases.bad((x, n) -> x.told(n, 0), -1, LEAST);
    }

    static void p10NoSuchSetIsBad() {
        Cases.bad((x, n) -> x.told(n, 0), 5, 9, 10, MOST);
    }

    static void p10WhatBelow0IsBad() {
        Cases.bad((x, n) -> x.told(0, n), -1, LEAST);
    }

    static void p10WhatAbove3IsBad() {
        Cases.bad((x, n) -> x.told(0, n), 4, 5, MOST);
    }

    private static void told(BuyAsAsked x, int set, int... want) {
        for (int what = 0; what < want.length; what++) {
            Cases.due("told(" + set + ", " + what + ")", x.told(set, what), want[what]);
        }
    }

    static void p10AtFirstNothingIsFilled() {
        told(with(6, 3), 0, 6, 3, 0, 0);
    }

    static void p10FilledInPart() {
        told(Cases.inUse(), 0, 20, 0b111, 4, 0);
    }

    static void p10FilledToItsCost() {
        told(Cases.inUse(), 2, 4, 0b1001, 4, 1);
    }

    static void p10FilledByItsOwnThingsAlone() {
        BuyAsAsked x = with(6, 3, 9, 6);
        x.demand(1);
        x.demand(2);
        told(x, 0, 6, 3, 6, 1);
        told(x, 1, 9, 6, 9, 1);
    }

    static void p10TheLastOfTen() {
        BuyAsAsked x = withTen();
        x.demand(9);
        told(x, 9, 100, 1 << 9, 100, 1);
        told(x, 8, 100, 1 << 8, 0, 0);
    }

    // ---- promise 11

    static void p11ThingBelow0IsBad() {
        Cases.bad(BuyAsAsked::price, -1, LEAST);
    }

    static void p11ThingAbove11IsBad() {
        Cases.bad(BuyAsAsked::price, 12, 13, MOST);
    }

    static void p11At0AtFirst() {
        BuyAsAsked x = withTen();
        for (int thing = 0; thing < 12; thing++) {
            due(x.price(thing), 0);
        }
    }

    static void p11OfTheDemandedThingAlone() {
        BuyAsAsked x = with(1000, 4095);
        x.demand(11);
        due(x.price(11), 1000);
        due(x.price(10), 0);
        due(x.price(0), 0);
    }
}
