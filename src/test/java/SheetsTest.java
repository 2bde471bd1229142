import java.util.function.Consumer;

/** Promises 1 to 5, and the terms that all of the document shares (p00). */
public final class SheetsTest {
    private static final int BAD = Checks.BAD, STATE = Checks.STATE, NONE = Checks.NONE;
    private static final int NULL = Checks.NULL, PLACE = Checks.PLACE, SIZE = Checks.SIZE, STORE = Checks.STORE;
    private static final int LEAST = Checks.LEAST, MOST = Checks.MOST;

    public static void main(String[] args) {
        Cases.run(SheetsTest.class, 0, 5);
    }

    private static void due(long got, long want) {
        Cases.due(got, want);
    }

    /** SHEET 0 holds three bytes, 1 two shorts, 2 sixty ints, 3 no ints, 4 four bytes; the others are missing. */
    private static BuyAsAsked withSheets() {
        BuyAsAsked x = new BuyAsAsked();
        x.sheet(0, 0, 3);
        x.sheet(1, 1, 2);
        x.sheet(2, 2, 60);
        x.sheet(3, 2, 0);
        x.sheet(4, 0, 4);
        return x;
    }

    private static void found(Cases.Call call, int want) {
        Cases.refused(SheetsTest::withSheets, call, want);
    }

    /** A SHEET has just these ITEMS, THINGS 0 to 8: each is told by what a DEMAND of it costs in an object made anew. */
    private static void reads(Consumer<BuyAsAsked> made, int sheet, int... things) {
        for (int i = 0; i <= things.length; i++) {
            BuyAsAsked x = new BuyAsAsked();
            for (int thing = 0; thing < 9; thing++) {
                x.offer(1 + thing, 1 << thing);
            }
            made.accept(x);
            Cases.due("ITEM " + i, x.demands(sheet, i, 1), i < things.length ? 1 + things[i] : PLACE);
        }
    }

    private static void lay(BuyAsAsked x, int sheet, int lane, int... items) {
        x.sheet(sheet, lane, items.length);
        for (int i = 0; i < items.length; i++) {
            x.set(sheet, i, items[i]);
        }
    }

    // ---- terms

    static void p00NumbersOfRefusals() {
        due(BuyAsAsked.NONE, -1000000);
        due(BuyAsAsked.BAD, -1000001);
        due(BuyAsAsked.STATE, -1000002);
        due(BuyAsAsked.FULL, -1000003);
    }

    static void p00NumbersOfFindings() {
        BuyAsAsked x = withSheets();
        x.offer(1, 1);
        due(x.drop(5), -1000010 - 1);
        due(x.set(0, 3, 0), -1000010 - 2);
        due(x.as(0, 3), -1000010 - 3);
        due(x.sheet(0, 0, -1), -1000010 - 4);
        due(x.copy(0, 0, 1, 0, 1), -1000010 - 5);
    }

    static void p00TheLastOf512CallsHolds() {
        BuyAsAsked x = new BuyAsAsked();
        x.offer(1000, 1);
        for (int call = 2; call < 512; call++) {
            Cases.due("call " + call, x.demand(0), call == 2 ? 1000 : 0);
        }
        due(x.covers(0), 1000);
    }

    // ---- promise 1

    static void p01NoSheets() {
        BuyAsAsked x = new BuyAsAsked();
        due(x.count(0), 0);
        for (int sheet = 0; sheet < 8; sheet++) {
            due(x.drop(sheet), NULL);
        }
    }

    static void p01NoSets() {
        BuyAsAsked x = new BuyAsAsked();
        due(x.count(1), 0);
        due(x.count(2), 0);
        due(x.count(3), 0);
        due(x.told(0, 0), BAD);
        due(x.kind(0), BAD);
        for (int what = 0; what < 6; what++) {
            due(x.covers(what), 0);
        }
        for (int thing = 0; thing < 12; thing++) {
            due(x.price(thing), 0);
            due(x.demand(thing), STATE);
        }
    }

    static void p01NoLeases() {
        BuyAsAsked x = new BuyAsAsked();
        due(x.count(4), 0);
        due(x.day(0), STATE);
        for (int what = 0; what < 5; what++) {
            due(x.leases(what), 0);
        }
        for (int d = 0; d < 128; d++) {
            due(x.covered(d), 0);
        }
    }

    static void p01NoSites() {
        BuyAsAsked x = new BuyAsAsked();
        due(x.count(5), 0);
        due(x.count(6), 0);
        due(x.call(0), BAD);
        due(x.way(0, 1, 1), BAD);
        for (int what = 0; what < 5; what++) {
            due(x.joins(what), 0);
        }
    }

    static void p01NothingWasAsked() {
        BuyAsAsked x = new BuyAsAsked();
        due(x.status(), 0);
        due(x.trace(0), NONE);
    }

    static void p01OneObjectLeavesAnotherAsItIs() {
        BuyAsAsked x = new BuyAsAsked();
        BuyAsAsked used = Cases.inUse();
        due(used.count(1), 5);
        for (int what = 0; what < 7; what++) {
            due(x.count(what), 0);
        }
        due(x.status(), 0);
        due(x.trace(0), NONE);
        due(x.offer(5, 1), 0);
    }

    // ---- promise 2

    static void p02FirstAndLastSheet() {
        BuyAsAsked x = new BuyAsAsked();
        due(x.sheet(0, 0, 1), 1);
        due(x.sheet(7, 0, 2), 2);
        due(x.count(0), 2);
    }

    static void p02AllEightAtOnce() {
        BuyAsAsked x = new BuyAsAsked();
        for (int sheet = 0; sheet < 8; sheet++) {
            due(x.sheet(sheet, sheet % 3, 5 + sheet), 5 + sheet);
            due(x.count(0), sheet + 1);
        }
        for (int sheet = 0; sheet < 8; sheet++) {
            due(x.drop(sheet), 5 + sheet);
        }
    }

    static void p02SheetBelow0IsBad() {
        Cases.bad((x, n) -> x.sheet(n, 0, 1), -1, LEAST);
    }

    static void p02SheetAbove7IsBad() {
        Cases.bad((x, n) -> x.sheet(n, 0, 1), 8, 9, MOST);
    }

    static void p02FirstAndLastLane() {
        reads(x -> lay(x, 0, 0, 256 + 3), 0, 3);
        reads(x -> lay(x, 0, 1, 65536 + 3), 0, 3);
        reads(x -> lay(x, 0, 2, 3), 0, 3);
    }

    static void p02LaneBelow0IsBad() {
        Cases.bad((x, n) -> x.sheet(0, n, 1), -1, LEAST);
    }

    static void p02LaneAbove2IsBad() {
        Cases.bad((x, n) -> x.sheet(0, n, 1), 3, 4, MOST);
    }

    static void p02NoItems() {
        reads(x -> due(x.sheet(0, 0, 0), 0), 0);
    }

    static void p02SixtyItems() {
        BuyAsAsked x = new BuyAsAsked();
        due(x.sheet(0, 0, 60), 60);
        due(x.set(0, 59, 7), 7);
        due(x.set(0, 60, 7), PLACE);
    }

    static void p02MoreThanSixtyItemsAreBad() {
        Cases.bad((x, n) -> x.sheet(0, 0, n), 61, 62, MOST);
    }

    static void p02FewerItemsThanNoneAreSize() {
        for (int n : new int[] {-1, -2, LEAST}) {
            found(x -> x.sheet(0, 0, n), SIZE);
            found(x -> x.sheet(5, 2, n), SIZE);
        }
    }

    static void p02BadGoesAheadOfSize() {
        Cases.bad((x, n) -> x.sheet(n, 0, -1), -1, 8);
        Cases.bad((x, n) -> x.sheet(0, n, -1), -1, 3);
    }

    static void p02ItemsAre0AtFirst() {
        reads(x -> x.sheet(7, 1, 4), 7, 0, 0, 0, 0);
        reads(x -> x.sheet(0, 0, 60), 0, new int[60]);
    }

    static void p02InPlaceOfWhatIsThere() {
        reads(x -> {
            lay(x, 1, 2, 5, 6, 7);
            due(x.sheet(1, 2, 3), 3);
            due(x.count(0), 1);
        }, 1, 0, 0, 0);
    }

    static void p02ShorterInPlaceOfWhatIsThere() {
        reads(x -> {
            lay(x, 1, 2, 5, 6, 7);
            x.sheet(1, 2, 1);
        }, 1, 0);
    }

    static void p02LongerAgainBringsNothingBack() {
        reads(x -> {
            lay(x, 1, 2, 5, 6, 7);
            x.sheet(1, 2, 1);
            x.sheet(1, 2, 3);
        }, 1, 0, 0, 0);
    }

    static void p02AnotherLaneInPlaceOfWhatIsThere() {
        BuyAsAsked x = new BuyAsAsked();
        x.sheet(1, 2, 1);
        x.sheet(1, 0, 1);
        due(x.set(1, 0, 128), -128);
        x.sheet(1, 1, 1);
        due(x.set(1, 0, 128), 128);
    }

    static void p02WhatIsRefusedOrFoundLeavesTheItems() {
        reads(x -> {
            lay(x, 0, 0, 5, 6);
            x.sheet(0, 1, -1);
            x.sheet(0, 3, 1);
            x.sheet(0, 1, 61);
        }, 0, 5, 6);
    }

    // ---- promise 3

    static void p03SheetBelow0IsBad() {
        Cases.bad((x, n) -> x.set(n, 0, 0), -1, LEAST);
    }

    static void p03SheetAbove7IsBad() {
        Cases.bad((x, n) -> x.set(n, 0, 0), 8, 9, MOST);
    }

    static void p03BadGoesAheadOfFindings() {
        Cases.bad((x, n) -> x.set(n, -1, 0), -1, 8);
    }

    static void p03MissingIsNull() {
        found(x -> x.set(5, 0, 0), NULL);
        found(x -> x.set(7, 0, 0), NULL);
    }

    static void p03NullGoesAheadOfPlace() {
        found(x -> x.set(5, -1, 0), NULL);
        found(x -> x.set(5, 60, 0), NULL);
    }

    static void p03BelowTheFirstItemIsPlace() {
        found(x -> x.set(0, -1, 1), PLACE);
        found(x -> x.set(2, LEAST, 1), PLACE);
    }

    static void p03AboveTheLastItemIsPlace() {
        found(x -> x.set(0, 3, 1), PLACE);
        found(x -> x.set(2, 60, 1), PLACE);
        found(x -> x.set(2, MOST, 1), PLACE);
    }

    static void p03AnEmptySheetHasNoPlace() {
        found(x -> x.set(3, 0, 1), PLACE);
    }

    static void p03ThePlacesOfAShorterOneInItsPlace() {
        BuyAsAsked x = new BuyAsAsked();
        x.sheet(0, 0, 5);
        x.sheet(0, 0, 2);
        due(x.set(0, 1, 4), 4);
        due(x.set(0, 2, 4), PLACE);
    }

    static void p03FirstAndLastItem() {
        reads(x -> {
            x.sheet(0, 0, 4);
            due(x.set(0, 0, 8), 8);
            due(x.set(0, 3, 7), 7);
        }, 0, 8, 0, 0, 7);
    }

    static void p03OneSheetLeavesAnotherAsItIs() {
        reads(x -> {
            lay(x, 0, 0, 1, 2);
            lay(x, 1, 0, 3, 4);
            x.set(0, 1, 5);
        }, 1, 3, 4);
    }

    private static void becomes(int lane, int v, int want) {
        BuyAsAsked x = new BuyAsAsked();
        x.sheet(6, lane, 2);
        due(x.set(6, 1, v), want);
        due(x.status(), 0);
    }

    static void p03BytesWrapAround() {
        int[] given = {127, 128, 255, 256, 300, -128, -129, -1, MOST, LEAST, BAD};
        int[] want = {127, -128, -1, 0, 44, -128, 127, -1, -1, 0, -65};
        for (int k = 0; k < given.length; k++) {
            becomes(0, given[k], want[k]);
        }
    }

    static void p03ShortsWrapAround() {
        int[] given = {32767, 32768, 65535, 65536, 70000, -32768, -32769, -1, MOST, LEAST, BAD};
        int[] want = {32767, -32768, -1, 0, 4464, -32768, 32767, -1, -1, 0, -16961};
        for (int k = 0; k < given.length; k++) {
            becomes(1, given[k], want[k]);
        }
    }

    static void p03IntsStayWhole() {
        for (int v : new int[] {MOST, LEAST, 65536, -32769, 0, -1}) {
            becomes(2, v, v);
        }
    }

    static void p03AnIntThatLooksLikeARefusalIsNone() {
        for (int v = STORE - 1; v <= NONE; v++) {
            becomes(2, v, v);
        }
    }

    // ---- promise 4

    static void p04SheetBelow0IsBad() {
        Cases.bad((x, n) -> x.copy(n, 0, 0, 0, 1), -1, LEAST);
        Cases.bad((x, n) -> x.copy(0, 0, n, 0, 1), -1, LEAST);
    }

    static void p04SheetAbove7IsBad() {
        Cases.bad((x, n) -> x.copy(n, 0, 0, 0, 1), 8, MOST);
        Cases.bad((x, n) -> x.copy(0, 0, n, 0, 1), 8, MOST);
    }

    static void p04BadGoesAheadOfFindings() {
        Cases.bad((x, n) -> x.copy(5, -1, n, -1, -1), -1, 8);
        Cases.bad((x, n) -> x.copy(n, -1, 5, -1, -1), -1, 8);
    }

    static void p04OneIsMissingIsNull() {
        found(x -> x.copy(5, 0, 0, 0, 1), NULL);
        found(x -> x.copy(0, 0, 5, 0, 1), NULL);
    }

    static void p04BothAreMissingIsNull() {
        found(x -> x.copy(5, 0, 6, 0, 0), NULL);
        found(x -> x.copy(5, 0, 5, 0, 0), NULL);
    }

    static void p04NullGoesAheadOfStoreAndPlace() {
        found(x -> x.copy(1, -1, 5, -1, -1), NULL);
        found(x -> x.copy(5, -1, 1, -1, -1), NULL);
    }

    static void p04TwoLanesAreStore() {
        for (int a = 0; a < 3; a++) {
            for (int b = 0; b < 3; b++) {
                int from = a;
                int to = b;
                if (from != to) {
                    found(x -> x.copy(from, 0, to, 0, 1), STORE);
                }
            }
        }
    }

    static void p04TwoLanesAreStoreForNoItemsToo() {
        found(x -> x.copy(0, 0, 1, 0, 0), STORE);
        found(x -> x.copy(1, 2, 3, 0, 0), STORE);
    }

    static void p04StoreGoesAheadOfPlace() {
        found(x -> x.copy(0, -1, 1, 0, 1), STORE);
        found(x -> x.copy(0, 0, 1, 0, -1), STORE);
        found(x -> x.copy(0, 0, 1, 9, 1), STORE);
    }

    static void p04BelowNoneIsPlace() {
        for (int n : new int[] {-1, LEAST}) {
            found(x -> x.copy(0, n, 4, 0, 1), PLACE);
            found(x -> x.copy(0, 0, 4, n, 1), PLACE);
            found(x -> x.copy(0, 1, 4, 1, n), PLACE);
        }
    }

    static void p04BeyondTheEndOfAIsPlace() {
        found(x -> x.copy(0, 0, 4, 0, 4), PLACE);
        found(x -> x.copy(0, 1, 4, 0, 3), PLACE);
        found(x -> x.copy(0, 3, 4, 0, 1), PLACE);
    }

    static void p04BeyondTheEndOfBIsPlace() {
        found(x -> x.copy(4, 0, 0, 0, 4), PLACE);
        found(x -> x.copy(4, 0, 0, 1, 3), PLACE);
        found(x -> x.copy(4, 0, 0, 3, 1), PLACE);
    }

    static void p04NoItemsBeyondAnEndArePlace() {
        found(x -> x.copy(0, 4, 4, 0, 0), PLACE);
        found(x -> x.copy(4, 0, 0, 4, 0), PLACE);
        found(x -> x.copy(3, 1, 3, 0, 0), PLACE);
    }

    static void p04FarBeyondAnEndIsPlace() {
        found(x -> x.copy(0, MOST, 4, 0, 1), PLACE);
        found(x -> x.copy(0, 0, 4, MOST, 1), PLACE);
        found(x -> x.copy(0, 0, 4, 0, MOST), PLACE);
        found(x -> x.copy(0, 1, 4, 1, MOST), PLACE);
        found(x -> x.copy(0, MOST, 4, MOST, MOST), PLACE);
    }

    static void p04WhatIsFoundLeavesTheItems() {
        reads(x -> {
            lay(x, 0, 0, 1, 2, 3);
            lay(x, 1, 0, 4, 5);
            x.copy(0, 0, 1, 0, 3);
            x.copy(0, 0, 1, 1, 2);
        }, 1, 4, 5);
    }

    static void p04NoItemsAtTheEnds() {
        BuyAsAsked x = withSheets();
        due(x.copy(0, 0, 4, 0, 0), 0);
        due(x.copy(0, 3, 4, 4, 0), 0);
        due(x.copy(2, 60, 3, 0, 0), 0);
        due(x.copy(3, 0, 3, 0, 0), 0);
        due(x.status(), 0);
    }

    static void p04UpToBothEnds() {
        reads(x -> {
            lay(x, 0, 1, 1, 2, 3);
            lay(x, 1, 1, 4, 5, 6, 7);
            due(x.copy(0, 1, 1, 2, 2), 2);
        }, 1, 4, 5, 2, 3);
    }

    static void p04TheOtherStaysAsItIs() {
        reads(x -> {
            lay(x, 0, 1, 1, 2, 3);
            lay(x, 1, 1, 4, 5, 6, 7);
            due(x.copy(0, 0, 1, 0, 3), 3);
        }, 0, 1, 2, 3);
    }

    static void p04AllSixty() {
        BuyAsAsked x = new BuyAsAsked();
        x.offer(9, 1 << 6);
        x.sheet(0, 2, 60);
        x.sheet(1, 2, 60);
        x.set(0, 59, 6);
        due(x.copy(0, 0, 1, 0, 60), 60);
        due(x.demands(1, 59, 1), 9);
    }

    static void p04OnwardsOverItself() {
        reads(x -> {
            lay(x, 0, 0, 0, 1, 2, 3, 4);
            due(x.copy(0, 0, 0, 1, 4), 4);
        }, 0, 0, 0, 1, 2, 3);
    }

    static void p04BackwardsOverItself() {
        reads(x -> {
            lay(x, 0, 0, 0, 1, 2, 3, 4);
            due(x.copy(0, 1, 0, 0, 4), 4);
        }, 0, 1, 2, 3, 4, 4);
    }

    static void p04AllOntoItself() {
        reads(x -> {
            lay(x, 0, 2, 4, 3, 2, 1);
            due(x.copy(0, 0, 0, 0, 4), 4);
        }, 0, 4, 3, 2, 1);
    }

    // ---- promise 5

    static void p05SheetBelow0IsBad() {
        Cases.bad(BuyAsAsked::drop, -1, LEAST);
    }

    static void p05SheetAbove7IsBad() {
        Cases.bad(BuyAsAsked::drop, 8, 9, MOST);
    }

    static void p05MissingIsNull() {
        found(x -> x.drop(5), NULL);
        found(x -> x.drop(7), NULL);
    }

    static void p05TwiceIsNull() {
        BuyAsAsked x = withSheets();
        due(x.drop(0), 3);
        due(x.drop(0), NULL);
        due(x.status(), 1);
    }

    static void p05HowManyItemsItHad() {
        BuyAsAsked x = withSheets();
        due(x.drop(3), 0);
        due(x.drop(2), 60);
        due(x.drop(1), 2);
    }

    static void p05FirstAndLastSheet() {
        BuyAsAsked x = new BuyAsAsked();
        x.sheet(0, 0, 4);
        x.sheet(7, 0, 6);
        due(x.drop(7), 6);
        due(x.count(0), 1);
        due(x.drop(0), 4);
        due(x.count(0), 0);
    }

    static void p05ItIsMissingForAllCalls() {
        BuyAsAsked x = withSheets();
        x.drop(0);
        due(x.set(0, 0, 1), NULL);
        due(x.copy(0, 0, 4, 0, 0), NULL);
        due(x.copy(4, 0, 0, 0, 0), NULL);
        due(x.demands(0, 0, 1), NULL);
        due(x.count(0), 4);
    }

    static void p05AnewItIs0() {
        reads(x -> {
            lay(x, 3, 2, 7, 7);
            x.drop(3);
            due(x.sheet(3, 2, 2), 2);
        }, 3, 0, 0);
    }
}
