/** Promises 20 to 25. */
public final class AskedTest {
    private static final int BAD = Checks.BAD, STATE = Checks.STATE, FULL = Checks.FULL, NONE = Checks.NONE;
    private static final int KIND = Checks.KIND, NULL = Checks.NULL;
    private static final int LEAST = Checks.LEAST, MOST = Checks.MOST;
    private static final int OPEN_SET = 0, NEAR_SET = 1, OWN_SET = 2;

    public static void main(String[] args) {
        Cases.run(AskedTest.class, 20, 25);
    }

    private static void due(long got, long want) {
        Cases.due(got, want);
    }

    /** A SET of a cost, FILLED that far and not bought; SET 0 is the one bought for it. */
    private static BuyAsAsked filled(int filled, int cost) {
        BuyAsAsked x = new BuyAsAsked();
        x.offer(filled, 1);
        x.offer(cost, 3);
        x.demand(0);
        return x;
    }

    // ---- promise 20

    static void p20SetBelow0IsBad() {
        Cases.bad(BuyAsAsked::kind, -1, LEAST);
    }

    static void p20NoSuchSetIsBad() {
        Cases.bad(BuyAsAsked::kind, 5, 9, 10, MOST);
    }

    static void p20AtFirstItIsOpen() {
        BuyAsAsked x = new BuyAsAsked();
        x.offer(1, 1);
        x.offer(1000, 4095);
        due(x.kind(0), 1);
        due(x.kind(1), 1);
    }

    static void p20TwiceFilledIsItsCost() {
        due(filled(5, 10).kind(1), 2);
        due(filled(500, 1000).kind(1), 2);
        due(filled(1, 2).kind(1), 2);
    }

    static void p20TwiceFilledIsOneLess() {
        due(filled(5, 11).kind(1), 1);
        due(filled(1, 3).kind(1), 1);
        due(filled(499, 999).kind(1), 1);
    }

    static void p20TwiceFilledIsOneMore() {
        due(filled(5, 9).kind(1), 2);
    }

    static void p20OneShortOfTightIsNear() {
        due(filled(999, 1000).kind(1), 2);
    }

    static void p20BoughtIsOwn() {
        due(filled(5, 5).kind(1), 3);
        due(filled(5, 9).kind(0), 3);
        BuyAsAsked x = filled(5, 9);
        x.demand(1);
        due(x.kind(1), 3);
    }

    // ---- promise 21

    static void p21SetBelow0IsBad() {
        Cases.bad((x, n) -> x.as(n, 0), -1, LEAST);
    }

    static void p21NoSuchSetIsBad() {
        Cases.bad((x, n) -> x.as(n, 0), 5, 9, 10, MOST);
    }

    static void p21KindBelow0IsBad() {
        Cases.bad((x, n) -> x.as(0, n), -1, LEAST);
    }

    static void p21KindAbove3IsBad() {
        Cases.bad((x, n) -> x.as(0, n), 4, 5, MOST);
    }

    static void p21BadGoesAheadOfKind() {
        Cases.bad((x, n) -> x.as(n, 3), -1, 5);
    }

    private static void taken(int set, int kind, int cost) {
        BuyAsAsked x = Cases.inUse();
        Cases.due("as(" + set + ", " + kind + ")", x.as(set, kind), cost);
        due(x.status(), 0);
    }

    private static void isNot(int set, int kind) {
        Cases.refused(Cases::inUse, x -> x.as(set, kind), KIND);
    }

    static void p21AllAreSets() {
        taken(OPEN_SET, 0, 20);
        taken(NEAR_SET, 0, 7);
        taken(OWN_SET, 0, 4);
    }

    static void p21AnOpenOne() {
        taken(OPEN_SET, 1, 20);
        isNot(OPEN_SET, 2);
        isNot(OPEN_SET, 3);
    }

    static void p21ANearOneIsOpenToo() {
        taken(NEAR_SET, 1, 7);
        taken(NEAR_SET, 2, 7);
        isNot(NEAR_SET, 3);
    }

    static void p21AnOwnOneIsNeitherOpenNorNear() {
        isNot(OWN_SET, 1);
        isNot(OWN_SET, 2);
        taken(OWN_SET, 3, 4);
    }

    // ---- promise 22

    static void p22SetBelow0IsBad() {
        Cases.bad((x, n) -> x.ask(n, 0), -1, LEAST);
    }

    static void p22NoSuchSetIsBad() {
        Cases.bad((x, n) -> x.ask(n, 0), 5, 9, 10, MOST);
    }

    static void p22AskBelow0IsBad() {
        Cases.bad((x, n) -> x.ask(0, n), -1, LEAST);
    }

    static void p22AskAbove1IsBad() {
        Cases.bad((x, n) -> x.ask(0, n), 2, 3, MOST);
    }

    static void p22WorthOfAnOpenOne() {
        due(Cases.inUse().ask(OPEN_SET, 0), 20 - 4);
    }

    static void p22WorthOfOneThatIsNotFilled() {
        BuyAsAsked x = new BuyAsAsked();
        x.offer(1000, 1);
        due(x.ask(0, 0), 1000);
    }

    static void p22WorthOfANearOne() {
        due(Cases.inUse().ask(NEAR_SET, 0), 7 - 4 + 2 + 100);
        due(filled(5, 10).ask(1, 0), 10 - 5 + 2 + 100);
    }

    static void p22WorthOfAnOwnOne() {
        due(Cases.inUse().ask(OWN_SET, 0), 2 * 4);
        due(filled(1000, 1000).ask(1, 0), 2000);
    }

    static void p22MarkOfAnOpenOne() {
        due(Cases.inUse().ask(OPEN_SET, 1), 3);
    }

    static void p22MarkOfOneThingAndOfAll() {
        BuyAsAsked x = new BuyAsAsked();
        x.offer(9, 1 << 11);
        x.offer(9, 4095);
        due(x.ask(0, 1), 1);
        due(x.ask(1, 1), 12);
    }

    static void p22MarkOfANearOne() {
        due(Cases.inUse().ask(NEAR_SET, 1), 2 + 100);
    }

    static void p22MarkOfAnOwnOne() {
        due(Cases.inUse().ask(OWN_SET, 1), 2 + 2 * 4);
    }

    static void p22ItIsAskedByWhatItIsNow() {
        BuyAsAsked x = new BuyAsAsked();
        x.offer(5, 1);
        x.offer(10, 3);
        due(x.ask(1, 1), 2);
        x.demand(0);
        due(x.ask(1, 1), 102);
        x.demand(1);
        due(x.ask(1, 1), 2 + 20);
    }

    static void p22TheTraceIsEmptyAheadOfIt() {
        BuyAsAsked x = Cases.inUse();
        trace(x, NEAR_SET, 0, 12, 11, 10, 21, 20);
        trace(x, OPEN_SET, 1, 20);
        trace(x, OPEN_SET, 1, 20);
    }

    static void p22WhereItIsRefusedTheTraceStays() {
        int[][] refused = {{-1, 0}, {5, 0}, {0, -1}, {0, 2}};
        for (int[] call : refused) {
            BuyAsAsked x = Cases.inUse();
            x.ask(OWN_SET, 0);
            due(x.ask(call[0], call[1]), BAD);
            due(x.trace(0), 13);
            due(x.trace(1), 10);
            due(x.trace(2), NONE);
        }
    }

    static void p22NothingElseChanges() {
        BuyAsAsked x = Cases.inUse();
        x.ask(OWN_SET, 1);
        due(x.status(), 5);
        due(x.covers(0), 4);
        due(x.covers(1), 4);
        due(x.kind(OWN_SET), 3);
    }

    // ---- promise 23

    private static void trace(BuyAsAsked x, int set, int what, int... want) {
        x.ask(set, what);
        for (int i = 0; i < 18; i++) {
            Cases.due("trace(" + i + ")", x.trace(i), i < want.length ? want[i] : NONE);
        }
    }

    static void p23BeforeAnAskItIsEmpty() {
        BuyAsAsked x = new BuyAsAsked();
        for (int i = 0; i < 18; i++) {
            due(x.trace(i), NONE);
        }
    }

    static void p23OfWorth() {
        trace(Cases.inUse(), OPEN_SET, 0, 11, 10);
        trace(Cases.inUse(), NEAR_SET, 0, 12, 11, 10, 21, 20);
        trace(Cases.inUse(), OWN_SET, 0, 13, 10);
    }

    static void p23OfMark() {
        trace(Cases.inUse(), OPEN_SET, 1, 20);
        trace(Cases.inUse(), NEAR_SET, 1, 21, 20);
        trace(Cases.inUse(), OWN_SET, 1, 22, 20, 13, 10);
    }

    static void p23BelowTheFirstIsNone() {
        BuyAsAsked x = Cases.inUse();
        due(x.trace(-1), NONE);
        due(x.trace(LEAST), NONE);
        due(x.trace(BAD), NONE);
    }

    static void p23BehindTheLastIsNone() {
        BuyAsAsked x = Cases.inUse();
        due(x.trace(4), 20);
        due(x.trace(5), NONE);
        due(x.trace(15), NONE);
        due(x.trace(16), NONE);
        due(x.trace(MOST), NONE);
    }

    static void p23OtherCallsLeaveIt() {
        BuyAsAsked x = Cases.inUse();
        x.kind(OPEN_SET);
        x.as(OPEN_SET, 1);
        x.demand(1);
        x.told(OPEN_SET, 2);
        due(x.trace(0), 12);
        due(x.trace(4), 20);
    }

    // ---- promise 24

    static void p24WhatBelow0IsBad() {
        Cases.bad(BuyAsAsked::count, -1, LEAST);
    }

    static void p24WhatAbove6IsBad() {
        Cases.bad(BuyAsAsked::count, 7, 8, MOST);
    }

    static void p24EachOfThem() {
        BuyAsAsked x = Cases.inUse();
        int[] want = {3, 5, 1, 1, 2, 5, 3};
        for (int what = 0; what < want.length; what++) {
            due(x.count(what), want[what]);
        }
    }

    static void p24AllAtTheirMost() {
        BuyAsAsked x = new BuyAsAsked();
        for (int k = 0; k < 10; k++) {
            x.sheet(k, 0, 0);
            x.offer(5, 4095);
            x.lease(1 << k, 1);
            x.site();
            for (int s = 0; s < k; s++) {
                x.way(k, s, 1);
            }
        }
        x.demand(0);
        int[] want = {8, 10, 10, 0, 4, 10, 45};
        for (int what = 0; what < want.length; what++) {
            due(x.count(what), want[what]);
        }
    }

    static void p24TheFirstSetAndTheLastAreNear() {
        BuyAsAsked x = new BuyAsAsked();
        for (int set = 0; set < 10; set++) {
            x.offer(set == 4 ? 5 : 10, set % 9 == 0 || set == 4 ? 1 : 2);
        }
        x.demand(0);
        due(x.kind(0), 2);
        due(x.kind(9), 2);
        due(x.count(3), 2);
    }

    static void p24NearOnesAsTheyAreTold() {
        due(filled(5, 10).count(3), 1);
        due(filled(5, 11).count(3), 0);
        BuyAsAsked x = filled(5, 10);
        x.demand(1);
        due(x.count(3), 0);
        due(x.count(2), 2);
    }

    // ---- promise 25

    static void p25AtFirstIs0() {
        due(new BuyAsAsked().status(), 0);
    }

    private static void leaves(Cases.Call call, int status) {
        BuyAsAsked x = Cases.inUse();
        due(x.status(), 5);
        call.on(x);
        due(x.status(), status);
    }

    static void p25OfSheet() {
        leaves(x -> x.sheet(0, 0, 0), 0);
        leaves(x -> x.sheet(0, 0, -1), 4);
        leaves(x -> x.sheet(8, 0, 0), 5);
        leaves(x -> x.sheet(0, 3, -1), 5);
        leaves(x -> x.sheet(0, 0, 61), 5);
    }

    static void p25OfSet() {
        leaves(x -> x.set(0, 0, 0), 0);
        leaves(x -> x.set(3, 0, 0), 1);
        leaves(x -> x.set(0, 3, 0), 2);
        leaves(x -> x.set(8, 0, 0), 5);
    }

    static void p25OfCopy() {
        leaves(x -> x.copy(0, 0, 0, 1, 2), 0);
        leaves(x -> x.copy(0, 0, 3, 0, 1), 1);
        leaves(x -> x.copy(0, 0, 0, 1, 3), 2);
        leaves(x -> x.copy(0, 0, 8, 0, 1), 5);
        BuyAsAsked x = new BuyAsAsked();
        x.sheet(0, 0, 1);
        x.sheet(1, 1, 1);
        x.copy(0, 0, 1, 0, 1);
        due(x.status(), 5);
    }

    static void p25OfDrop() {
        leaves(x -> x.drop(0), 0);
        leaves(x -> x.drop(3), 1);
        leaves(x -> x.drop(8), 5);
    }

    static void p25OfDemands() {
        leaves(x -> x.demands(0, 0, 3), 0);
        leaves(x -> x.demands(3, 0, 1), 1);
        leaves(x -> x.demands(0, 0, 4), 2);
        leaves(x -> x.demands(8, 0, 1), 5);
        leaves(x -> x.demands(0, 0, 0), 5);
    }

    static void p25OfDemandsThatAreAllPassedOver() {
        BuyAsAsked x = new BuyAsAsked();
        x.sheet(0, 0, 1);
        x.drop(1);
        due(x.status(), 1);
        due(x.demands(0, 0, 1), 0);
        due(x.status(), 0);
    }

    static void p25OfAs() {
        leaves(x -> x.as(OPEN_SET, 1), 0);
        leaves(x -> x.as(OPEN_SET, 3), 3);
        leaves(x -> x.as(5, 0), 5);
        leaves(x -> x.as(0, 4), 5);
    }

    static void p25OtherCallsLeaveIt() {
        leaves(x -> x.offer(5, 1), 5);
        leaves(x -> x.demand(1), 5);
        leaves(x -> x.demand(6), 5);
        leaves(x -> x.covers(2), 5);
        leaves(x -> x.told(0, 0), 5);
        leaves(x -> x.price(0), 5);
        leaves(x -> x.lease(1, 1), 5);
        leaves(x -> x.day(5), 5);
        leaves(x -> x.leases(2), 5);
        leaves(x -> x.covered(4), 5);
        leaves(BuyAsAsked::site, 5);
        leaves(x -> x.way(2, 3, 4), 5);
        leaves(x -> x.call(3), 5);
        leaves(x -> x.call(4), 5);
        leaves(x -> x.joins(1), 5);
        leaves(x -> x.kind(0), 5);
        leaves(x -> x.ask(0, 0), 5);
        leaves(x -> x.trace(0), 5);
        leaves(x -> x.count(0), 5);
        leaves(BuyAsAsked::status, 5);
    }

    static void p25FullLeavesIt() {
        BuyAsAsked x = Cases.inUse();
        for (int s = 5; s < 10; s++) {
            x.site();
        }
        due(x.site(), FULL);
        due(x.status(), 5);
    }

    static void p25StateLeavesIt() {
        BuyAsAsked x = new BuyAsAsked();
        due(x.drop(0), NULL);
        due(x.demand(0), STATE);
        due(x.status(), 1);
    }

    static void p25TheLatestFindingGoesAheadOfEarlierOnes() {
        BuyAsAsked x = Cases.inUse();
        x.as(OPEN_SET, 3);
        due(x.status(), 3);
        x.drop(3);
        due(x.status(), 1);
        x.set(0, 3, 0);
        due(x.status(), 2);
        due(x.status(), 2);
    }
}
