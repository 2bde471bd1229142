/** Promises 1 to 5, and 25 for the calls with a SHEET. */
public final class SheetsTest {
    private static final int BAD = Checks.BAD, NULL = Checks.NULL, PLACE = Checks.PLACE;
    private static final int SIZE = Checks.SIZE, STORE = Checks.STORE, STATE = Checks.STATE;

    public static void main(String[] args) {
        newObject();
        constants();
        sheets();
        lanes();
        setRefusals();
        copies();
        copyRefusals();
        drops();
        statusOfSheets();
        statusOfAnswersThatLookLikeRefusals();
        statusOfDemands();
        Checks.end("SheetsTest");
    }

    private static void due(String call, long got, long want) {
        Checks.due(call, got, want);
    }

    private static void newObject() {
        BuyAsAsked x = new BuyAsAsked();
        for (int what = 0; what < 7; what++) {
            due("1: count(" + what + ")", x.count(what), 0);
        }
        for (int what = 0; what < 6; what++) {
            due("1: covers(" + what + ")", x.covers(what), 0);
        }
        for (int what = 0; what < 5; what++) {
            due("1: leases(" + what + ")", x.leases(what), 0);
            due("1: joins(" + what + ")", x.joins(what), 0);
        }
        for (int sheet = 0; sheet < 8; sheet++) {
            due("1: drop of a missing SHEET", x.drop(sheet), NULL);
        }
        due("1: trace", x.trace(0), Checks.NONE);
        due("1: status", new BuyAsAsked().status(), 0);
    }

    private static void constants() {
        due("NONE", BuyAsAsked.NONE, -1000000);
        due("BAD", BuyAsAsked.BAD, -1000001);
        due("STATE", BuyAsAsked.STATE, -1000002);
        due("FULL", BuyAsAsked.FULL, -1000003);
    }

    private static void sheets() {
        BuyAsAsked x = new BuyAsAsked();
        due("2: least SHEET", x.sheet(0, 0, 0), 0);
        due("2: most ITEMS", x.sheet(7, 2, 60), 60);
        due("2: count", x.count(0), 2);
        due("2: SHEET below", x.sheet(-1, 0, 1), BAD);
        due("2: SHEET above", x.sheet(8, 0, 1), BAD);
        due("2: LANE below", x.sheet(0, -1, 1), BAD);
        due("2: LANE above", x.sheet(0, 3, 1), BAD);
        due("2: n above", x.sheet(0, 0, 61), BAD);
        due("2: n far above", x.sheet(0, 0, Checks.MOST), BAD);
        due("2: fewer than none", x.sheet(0, 0, -1), SIZE);
        due("2: far fewer", x.sheet(0, 0, Checks.LEAST), SIZE);
        due("2: BAD goes ahead of SIZE", x.sheet(8, 0, -1), BAD);
        due("2: BAD LANE goes ahead of SIZE", x.sheet(0, 3, -1), BAD);
        due("2: what is found changes nothing", x.drop(0), 0);
        due("2: what is refused changes nothing", x.drop(7), 60);
        for (int i = 0; i < 3; i++) {
            checkLaidAnew(i);
        }
    }

    private static void checkLaidAnew(int i) {
        BuyAsAsked x = new BuyAsAsked();
        x.sheet(1, 2, 3);
        x.set(1, i, 5);
        due("2: in place of what is there", x.sheet(1, 2, 3), 3);
        due("2: ITEM " + i + " is 0 at first", demandOfItem(x, 1, i), 0);
    }

    /** Which THING an ITEM of an int SHEET names, found by the price that its DEMAND raises; -1 for none. */
    private static int demandOfItem(BuyAsAsked x, int sheet, int i) {
        for (int thing = 0; thing < 9; thing++) {
            x.offer(1, 1 << thing);
        }
        x.demands(sheet, i, 1);
        for (int thing = 0; thing < 12; thing++) {
            if (x.price(thing) > 0) {
                return thing;
            }
        }
        return -1;
    }

    private static void lanes() {
        BuyAsAsked x = new BuyAsAsked();
        for (int lane = 0; lane < 3; lane++) {
            x.sheet(lane, lane, 2);
        }
        int[] given = {0, 1, -1, 127, 128, 255, 256, -128, -129, 300, 32767, 32768, 65535, -32769, 8388608,
            Integer.MAX_VALUE, Integer.MIN_VALUE, BuyAsAsked.BAD};
        for (int v : given) {
            due("3: byte " + v, x.set(0, 1, v), (byte) v);
            due("3: short " + v, x.set(1, 0, v), (short) v);
            due("3: int " + v, x.set(2, 1, v), v);
        }
    }

    private static void setRefusals() {
        BuyAsAsked x = new BuyAsAsked();
        x.sheet(0, 2, 2);
        x.sheet(1, 2, 0);
        due("3: SHEET below", x.set(-1, 0, 0), BAD);
        due("3: SHEET above", x.set(8, 0, 0), BAD);
        due("3: missing", x.set(2, 0, 0), NULL);
        due("3: missing goes ahead of place", x.set(2, -1, 0), NULL);
        due("3: below", x.set(0, -1, 0), PLACE);
        due("3: above", x.set(0, 2, 0), PLACE);
        due("3: far below", x.set(0, Checks.LEAST, 0), PLACE);
        due("3: far above", x.set(0, Checks.MOST, 0), PLACE);
        due("3: an empty SHEET has no place", x.set(1, 0, 0), PLACE);
        due("3: the last one", x.set(0, 1, 7), 7);
    }

    /** Sets ITEMS 0 .. of SHEET 0 to the THINGS, copies within it, and tells the THINGS that then stand. */
    private static void copies() {
        checkCopy("4: onwards over itself", new int[] {0, 1, 2, 3, 4}, 0, 2, 3, new int[] {0, 1, 0, 1, 2});
        checkCopy("4: backwards over itself", new int[] {0, 1, 2, 3, 4}, 2, 0, 3, new int[] {2, 3, 4, 3, 4});
        checkCopy("4: all onto itself", new int[] {4, 3, 2, 1, 0}, 0, 0, 5, new int[] {4, 3, 2, 1, 0});
        checkCopy("4: none", new int[] {4, 3, 2, 1, 0}, 5, 5, 0, new int[] {4, 3, 2, 1, 0});
        BuyAsAsked x = new BuyAsAsked();
        x.sheet(0, 1, 4);
        x.sheet(1, 1, 3);
        x.set(0, 3, 6);
        due("4: to another SHEET", x.copy(0, 3, 1, 0, 1), 1);
        due("4: what came there", demandOfItem(x, 1, 0), 6);
    }

    private static void checkCopy(String name, int[] from, int i, int j, int n, int[] want) {
        for (int k = 0; k < want.length; k++) {
            BuyAsAsked x = new BuyAsAsked();
            x.sheet(0, 0, from.length);
            for (int at = 0; at < from.length; at++) {
                x.set(0, at, from[at]);
            }
            due(name, x.copy(0, i, 0, j, n), n);
            due(name + ", ITEM " + k, demandOfItem(x, 0, k), want[k]);
        }
    }

    private static void copyRefusals() {
        BuyAsAsked x = new BuyAsAsked();
        x.sheet(0, 2, 3);
        x.sheet(1, 2, 2);
        x.sheet(2, 1, 3);
        due("4: SHEET a below", x.copy(-1, 0, 0, 0, 1), BAD);
        due("4: SHEET a above", x.copy(8, 0, 0, 0, 1), BAD);
        due("4: SHEET b below", x.copy(0, 0, -1, 0, 1), BAD);
        due("4: SHEET b above", x.copy(0, 0, 8, 0, 1), BAD);
        due("4: BAD goes ahead of NULL", x.copy(5, 0, 8, 0, 1), BAD);
        due("4: a is missing", x.copy(5, 0, 0, 0, 1), NULL);
        due("4: b is missing", x.copy(0, 0, 5, 0, 1), NULL);
        due("4: NULL goes ahead of PLACE", x.copy(0, -1, 5, 0, 1), NULL);
        due("4: two LANES", x.copy(0, 0, 2, 0, 1), STORE);
        due("4: STORE goes ahead of PLACE", x.copy(0, -1, 2, 0, 1), STORE);
        due("4: STORE of none", x.copy(0, 0, 2, 0, 0), STORE);
        due("4: i below", x.copy(0, -1, 1, 0, 1), PLACE);
        due("4: j below", x.copy(0, 0, 1, -1, 1), PLACE);
        due("4: n below", x.copy(0, 0, 1, 0, -1), PLACE);
        due("4: beyond the end of a", x.copy(1, 1, 0, 0, 2), PLACE);
        due("4: beyond the end of b", x.copy(0, 0, 1, 1, 2), PLACE);
        due("4: none beyond the end of a", x.copy(0, 4, 1, 0, 0), PLACE);
        due("4: none beyond the end of b", x.copy(0, 0, 1, 3, 0), PLACE);
        due("4: none at both ends", x.copy(0, 3, 1, 2, 0), 0);
        due("4: up to both ends", x.copy(0, 1, 1, 0, 2), 2);
        due("4: i far above", x.copy(0, Checks.MOST, 1, 0, 2), PLACE);
        due("4: j far above", x.copy(0, 0, 1, Checks.MOST, 2), PLACE);
        due("4: n far above", x.copy(0, 1, 1, 1, Checks.MOST), PLACE);
        due("4: n far below", x.copy(0, 1, 1, 1, Checks.LEAST), PLACE);
        due("4: i, j, n far above", x.copy(0, Checks.MOST, 1, Checks.MOST, Checks.MOST), PLACE);
    }

    private static void drops() {
        BuyAsAsked x = new BuyAsAsked();
        x.sheet(3, 2, 5);
        x.set(3, 4, 7);
        due("5: below", x.drop(-1), BAD);
        due("5: above", x.drop(8), BAD);
        due("5: missing", x.drop(4), NULL);
        due("5: how many", x.drop(3), 5);
        due("5: again", x.drop(3), NULL);
        due("5: no longer counted", x.count(0), 0);
        due("5: no longer set", x.set(3, 0, 1), NULL);
        due("5: anew", x.sheet(3, 2, 5), 5);
        due("5: anew it is 0", demandOfItem(x, 3, 4), 0);
    }

    private static void statusOfSheets() {
        BuyAsAsked x = new BuyAsAsked();
        x.set(0, 0, 0);
        due("25: NULL", x.status(), 1);
        x.set(8, 0, 0);
        due("25: BAD leaves it", x.status(), 1);
        x.sheet(0, 2, 2);
        due("25: none", x.status(), 0);
        x.set(0, 2, 0);
        due("25: PLACE", x.status(), 2);
        x.set(0, 1, 0);
        due("25: none after set", x.status(), 0);
        x.sheet(0, 2, -1);
        due("25: SIZE", x.status(), 4);
        x.sheet(0, 3, -1);
        due("25: BAD leaves SIZE", x.status(), 4);
        x.demand(0);
        due("25: a call with no SHEET leaves it", x.status(), 4);
        x.copy(0, 0, 0, 1, 1);
        due("25: none after copy", x.status(), 0);
        x.sheet(1, 0, 2);
        x.copy(0, 0, 1, 0, 1);
        due("25: STORE", x.status(), 5);
        x.copy(0, 0, 8, 0, 1);
        due("25: BAD copy leaves it", x.status(), 5);
        x.drop(1);
        due("25: none after drop", x.status(), 0);
        x.drop(1);
        due("25: NULL after drop", x.status(), 1);
        x.drop(9);
        due("25: BAD drop leaves it", x.status(), 1);
    }

    private static void statusOfAnswersThatLookLikeRefusals() {
        BuyAsAsked x = new BuyAsAsked();
        x.sheet(0, 2, 1);
        for (int v = -1000016; v <= -1000000; v++) {
            x.set(0, 1, 0);
            due("3: " + v, x.set(0, 0, v), v);
            due("25: after " + v, x.status(), 0);
        }
    }

    private static void statusOfDemands() {
        BuyAsAsked x = new BuyAsAsked();
        x.sheet(0, 0, 2);
        x.demands(1, 0, 1);
        due("25: demands, NULL", x.status(), 1);
        x.demands(0, 0, 1);
        due("25: demands, none", x.status(), 0);
        x.demands(0, 1, 2);
        due("25: demands, PLACE", x.status(), 2);
        x.demands(0, 0, 0);
        due("25: demands, BAD leaves it", x.status(), 2);
        due("25: demand, STATE", x.demand(0), STATE);
        due("25: demand leaves it", x.status(), 2);
    }
}
