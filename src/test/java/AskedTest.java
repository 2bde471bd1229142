/** Promises 20 to 25. */
public final class AskedTest {
    private static final int BAD = Checks.BAD, KIND = Checks.KIND, NONE = Checks.NONE;
    private static final int OPEN_SET = 0, NEAR_SET = 1, OWN_SET = 2;

    public static void main(String[] args) {
        kinds();
        nearAtTwice();
        takenAs();
        asks();
        traces();
        askRefusals();
        counts();
        statusOfAs();
        Checks.end("AskedTest");
    }

    private static void due(String call, long got, long want) {
        Checks.due(call, got, want);
    }

    /** Three SETS: one is OPEN (FILLED 4 of 20), one NEAR (4 of 7), one OWN (4 of 4). */
    private static BuyAsAsked withKinds() {
        BuyAsAsked x = new BuyAsAsked();
        x.offer(20, 0b111);
        x.offer(7, 0b11);
        x.offer(4, 0b1001);
        x.demand(0);
        return x;
    }

    private static void kinds() {
        BuyAsAsked x = withKinds();
        due("20: OPEN", x.kind(OPEN_SET), 1);
        due("20: NEAR", x.kind(NEAR_SET), 2);
        due("20: OWN", x.kind(OWN_SET), 3);
        due("20: below", x.kind(-1), BAD);
        due("20: no such SET", x.kind(3), BAD);
        due("20: far above", x.kind(Checks.MOST), BAD);
    }

    private static void nearAtTwice() {
        BuyAsAsked x = new BuyAsAsked();
        x.offer(5, 1);
        x.offer(10, 1);
        x.offer(11, 1);
        due("20: at first", x.kind(1), 1);
        x.demand(0);
        due("20: twice is its cost", x.kind(1), 2);
        due("20: twice is less", x.kind(2), 1);
        due("20: all of it", x.kind(0), 3);
    }

    private static void takenAs() {
        BuyAsAsked x = withKinds();
        int[] costs = {20, 7, 4};
        boolean[][] is = {{true, true, false, false}, {true, true, true, false}, {true, false, false, true}};
        for (int set = 0; set < 3; set++) {
            for (int kind = 0; kind < 4; kind++) {
                due("21: as(" + set + ", " + kind + ")", x.as(set, kind), is[set][kind] ? costs[set] : KIND);
            }
        }
        due("21: SET below", x.as(-1, 0), BAD);
        due("21: no such SET", x.as(3, 0), BAD);
        due("21: KIND below", x.as(0, -1), BAD);
        due("21: KIND above", x.as(0, 4), BAD);
        due("21: far below", x.as(0, Checks.LEAST), BAD);
    }

    private static void asks() {
        BuyAsAsked x = withKinds();
        due("22: WORTH of an OPEN one", x.ask(OPEN_SET, 0), 20 - 4);
        due("22: MARK of an OPEN one", x.ask(OPEN_SET, 1), 3);
        due("22: WORTH of a NEAR one", x.ask(NEAR_SET, 0), 7 - 4 + 102);
        due("22: MARK of a NEAR one", x.ask(NEAR_SET, 1), 102);
        due("22: WORTH of an OWN one", x.ask(OWN_SET, 0), 8);
        due("22: MARK of an OWN one", x.ask(OWN_SET, 1), 2 + 8);
        due("22: nothing changes", x.covers(0), 4);
    }

    private static void traces() {
        BuyAsAsked x = withKinds();
        checkTrace(x, OPEN_SET, 0, new int[] {11, 10});
        checkTrace(x, OPEN_SET, 1, new int[] {20});
        checkTrace(x, NEAR_SET, 0, new int[] {12, 11, 10, 21, 20});
        checkTrace(x, NEAR_SET, 1, new int[] {21, 20});
        checkTrace(x, OWN_SET, 0, new int[] {13, 10});
        checkTrace(x, OWN_SET, 1, new int[] {22, 20, 13, 10});
    }

    private static void checkTrace(BuyAsAsked x, int set, int what, int[] want) {
        x.ask(set, what);
        for (int i = 0; i < 20; i++) {
            due("23: SET " + set + ", ASK " + what + ", number " + i, x.trace(i), i < want.length ? want[i] : NONE);
        }
        due("23: below", x.trace(-1), NONE);
        due("23: far below", x.trace(Checks.LEAST), NONE);
        due("23: far above", x.trace(Checks.MOST), NONE);
    }

    private static void askRefusals() {
        BuyAsAsked x = withKinds();
        x.ask(OPEN_SET, 0);
        due("22: SET below", x.ask(-1, 0), BAD);
        due("22: no such SET", x.ask(3, 0), BAD);
        due("22: ASK below", x.ask(0, -1), BAD);
        due("22: ASK above", x.ask(0, 2), BAD);
        due("22: THE TRACE stays", x.trace(0), 11);
        due("22: all of it", x.trace(1), 10);
    }

    private static void counts() {
        BuyAsAsked x = withKinds();
        x.sheet(7, 0, 0);
        x.lease(1, 1);
        x.site();
        x.site();
        x.site();
        x.way(0, 1, 5);
        x.way(1, 2, 5);
        x.call(0);
        x.call(1);
        int[] want = {1, 3, 1, 1, 1, 3, 2};
        for (int what = 0; what < want.length; what++) {
            due("24: count(" + what + ")", x.count(what), want[what]);
        }
        due("24: below", x.count(-1), BAD);
        due("24: above", x.count(7), BAD);
        due("24: far above", x.count(Checks.MOST), BAD);
    }

    private static void statusOfAs() {
        BuyAsAsked x = withKinds();
        due("25: at first", x.status(), 0);
        x.as(OWN_SET, 1);
        due("25: KIND", x.status(), 3);
        x.as(OWN_SET, 4);
        due("25: BAD leaves it", x.status(), 3);
        x.ask(9, 0);
        due("25: another call leaves it", x.status(), 3);
        x.offer(5, 1);
        due("25: STATE leaves it", x.status(), 3);
        x.as(OWN_SET, 3);
        due("25: none", x.status(), 0);
        x.as(OPEN_SET, 2);
        due("25: KIND again", x.status(), 3);
        x.sheet(0, 0, 1);
        due("25: none after a SHEET", x.status(), 0);
    }
}
