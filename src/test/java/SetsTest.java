/** Promises 6 to 11. */
public final class SetsTest {
    private static final int BAD = Checks.BAD, STATE = Checks.STATE, FULL = Checks.FULL;

    public static void main(String[] args) {
        offers();
        offersAfterDemands();
        onlyTheFirstTightIsBought();
        allTightAreBought();
        demandRefusals();
        manyDemands();
        manyDemandsPassOver();
        manyDemandsRefusals();
        coversOfAll();
        leastIsNoGreedyOne();
        shareCountsDemandedThingsAlone();
        toldOfSets();
        prices();
        Checks.end("SetsTest");
    }

    private static void due(String call, long got, long want) {
        Checks.due(call, got, want);
    }

    private static void offers() {
        BuyAsAsked x = new BuyAsAsked();
        due("6: cost below", x.offer(0, 1), BAD);
        due("6: cost above", x.offer(1001, 1), BAD);
        due("6: no THINGS", x.offer(1, 0), BAD);
        due("6: THINGS above", x.offer(1, 4096), BAD);
        due("6: THINGS below", x.offer(1, -1), BAD);
        due("6: least", x.offer(1, 1), 0);
        due("6: most", x.offer(1000, 4095), 1);
        for (int set = 2; set < 10; set++) {
            due("6: number " + set, x.offer(5, 1 << set), set);
        }
        due("6: an eleventh", x.offer(5, 1), FULL);
        due("6: BAD goes ahead of FULL", x.offer(0, 1), BAD);
        due("6: ten stand", x.count(1), 10);
        x.demand(0);
        due("6: STATE goes ahead of FULL", x.offer(5, 1), STATE);
    }

    private static void offersAfterDemands() {
        BuyAsAsked x = new BuyAsAsked();
        x.offer(5, 3);
        due("6: a refused DEMAND is none", x.demand(2), STATE);
        due("6: still open", x.offer(5, 4), 1);
        due("6: a DEMAND", x.demand(0), 5);
        due("6: of a demanded THING", x.offer(5, 1), STATE);
        due("6: of another THING", x.offer(5, 8), STATE);
        due("6: BAD goes ahead of STATE", x.offer(5, 0), BAD);
        due("6: nothing came", x.count(1), 2);
    }

    private static void onlyTheFirstTightIsBought() {
        BuyAsAsked x = new BuyAsAsked();
        x.offer(10, 3);
        x.offer(4, 5);
        x.offer(7, 8);
        due("7: the nearest", x.demand(0), 4);
        due("7: that alone", x.covers(5), 2);
        due("7: its price", x.price(0), 4);
        due("7: within what is bought", x.demand(2), 0);
        due("7: no price", x.price(2), 0);
        due("7: what is left of the other", x.demand(1), 10);
        due("7: by what was missing", x.price(1), 6);
        due("7: asked again", x.demand(1), 0);
        due("7: paid", x.covers(0), 14);
    }

    private static void allTightAreBought() {
        BuyAsAsked x = new BuyAsAsked();
        x.offer(4, 1);
        x.offer(4, 3);
        x.offer(4, 5);
        x.offer(5, 9);
        due("7: all that are TIGHT", x.demand(0), 12);
        due("7: these three", x.covers(5), 7);
        due("7: the last is not", x.told(3, 3), 0);
        due("7: it wants 1", x.demand(3), 5);
        due("7: by 1", x.price(3), 1);
    }

    private static void demandRefusals() {
        BuyAsAsked x = new BuyAsAsked();
        due("7: below", x.demand(-1), BAD);
        due("7: above", x.demand(12), BAD);
        due("7: far above", x.demand(Checks.MOST), BAD);
        due("7: no SET at all", x.demand(0), STATE);
        x.offer(1, 1 << 11);
        due("7: no SET has it", x.demand(10), STATE);
        due("7: it is not demanded", x.covers(4), 0);
        due("7: the last THING", x.demand(11), 1);
    }

    private static void manyDemands() {
        BuyAsAsked x = new BuyAsAsked();
        x.offer(10, 3);
        x.offer(4, 1);
        x.sheet(0, 0, 60);
        x.set(0, 58, 1);
        due("8: in their order", x.demands(0, 57, 3), 14);
        due("8: 0 came first", x.price(0), 4);
        due("8: then 1", x.price(1), 6);
        due("8: all sixty", x.demands(0, 0, 60), 0);
    }

    private static void manyDemandsPassOver() {
        BuyAsAsked x = new BuyAsAsked();
        x.offer(3, 1);
        x.offer(5, 4);
        x.sheet(0, 2, 6);
        int[] items = {12, -1, 1, 2, Integer.MIN_VALUE, 0};
        for (int i = 0; i < items.length; i++) {
            x.set(0, i, items[i]);
        }
        due("8: passed over", x.demands(0, 0, 6), 8);
        due("8: those alone", x.covers(4), 5);
        due("8: no FINDING", x.status(), 0);
    }

    private static void manyDemandsRefusals() {
        BuyAsAsked x = new BuyAsAsked();
        x.offer(3, 1);
        x.sheet(0, 2, 5);
        due("8: SHEET below", x.demands(-1, 0, 1), BAD);
        due("8: SHEET above", x.demands(8, 0, 1), BAD);
        due("8: none", x.demands(0, 0, 0), BAD);
        due("8: below none", x.demands(0, 0, -1), BAD);
        due("8: above sixty", x.demands(0, 0, 61), BAD);
        due("8: BAD goes ahead of NULL", x.demands(1, 0, 61), BAD);
        due("8: missing", x.demands(1, 0, 1), Checks.NULL);
        due("8: NULL goes ahead of PLACE", x.demands(1, -1, 60), Checks.NULL);
        due("8: below a place", x.demands(0, -1, 1), Checks.PLACE);
        due("8: above a place", x.demands(0, 5, 1), Checks.PLACE);
        due("8: beyond the end", x.demands(0, 1, 5), Checks.PLACE);
        due("8: far above", x.demands(0, Checks.MOST, 60), Checks.PLACE);
        due("8: nothing was demanded", x.covers(4), 0);
        due("8: up to the end", x.demands(0, 4, 1), 3);
    }

    private static void coversOfAll() {
        BuyAsAsked x = new BuyAsAsked();
        x.offer(6, 3);
        x.offer(9, 6);
        x.offer(8, 12);
        x.demand(1);
        x.demand(2);
        due("9: paid", x.covers(0), 6 + 9);
        due("9: PRICES", x.covers(1), 6 + 3);
        due("9: BEST", x.covers(2), 9);
        due("9: SHARE", x.covers(3), 2);
        due("9: demanded", x.covers(4), 6);
        due("9: bought", x.covers(5), 3);
        due("9: below", x.covers(-1), BAD);
        due("9: above", x.covers(6), BAD);
        due("9: far below", x.covers(Checks.LEAST), BAD);
    }

    private static void leastIsNoGreedyOne() {
        BuyAsAsked x = new BuyAsAsked();
        x.offer(10, 0b111100);
        x.offer(6, 0b101011);
        x.offer(6, 0b010111);
        x.offer(1000, 4095);
        for (int thing = 0; thing < 6; thing++) {
            x.demand(thing);
        }
        due("9: BEST of two", x.covers(2), 12);
        BuyAsAsked y = new BuyAsAsked();
        for (int set = 0; set < 10; set++) {
            y.offer(100, 1 << set);
        }
        for (int thing = 0; thing < 10; thing++) {
            due("9: each alone", y.demand(thing), 100);
        }
        due("9: BEST of ten", y.covers(2), 1000);
        due("9: PRICES of ten", y.covers(1), 1000);
    }

    private static void shareCountsDemandedThingsAlone() {
        BuyAsAsked x = new BuyAsAsked();
        x.offer(1, 3);
        x.offer(2, 3);
        x.offer(3, 6);
        due("9: none demanded", x.covers(3), 0);
        x.demand(2);
        due("9: one has it", x.covers(3), 1);
        x.demand(0);
        due("9: two have it", x.covers(3), 2);
        x.demand(1);
        due("9: three have it", x.covers(3), 3);
    }

    private static void toldOfSets() {
        BuyAsAsked x = new BuyAsAsked();
        x.offer(6, 3);
        x.offer(9, 6);
        x.demand(1);
        x.demand(2);
        due("10: cost", x.told(1, 0), 9);
        due("10: THINGS", x.told(1, 1), 6);
        due("10: FILLED", x.told(1, 2), 9);
        due("10: bought", x.told(1, 3), 1);
        due("10: FILLED by its own", x.told(0, 2), 6);
        due("10: SET below", x.told(-1, 0), BAD);
        due("10: no such SET", x.told(2, 0), BAD);
        due("10: far above", x.told(Checks.MOST, 0), BAD);
        due("10: what below", x.told(0, -1), BAD);
        due("10: what above", x.told(0, 4), BAD);
        BuyAsAsked y = new BuyAsAsked();
        y.offer(6, 1);
        y.offer(9, 1);
        y.demand(0);
        due("10: FILLED, not bought", y.told(1, 2), 6);
        due("10: not bought", y.told(1, 3), 0);
    }

    private static void prices() {
        BuyAsAsked x = new BuyAsAsked();
        due("11: at first", x.price(0), 0);
        due("11: below", x.price(-1), BAD);
        due("11: above", x.price(12), BAD);
        due("11: far below", x.price(Checks.LEAST), BAD);
        x.offer(1000, 1 << 11);
        x.demand(11);
        due("11: the last THING", x.price(11), 1000);
        due("11: another", x.price(10), 0);
    }
}
