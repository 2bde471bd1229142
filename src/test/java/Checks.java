/** Counts the answers that are due and those that are not. */
final class Checks {
    static final int NONE = BuyAsAsked.NONE, BAD = BuyAsAsked.BAD, STATE = BuyAsAsked.STATE, FULL = BuyAsAsked.FULL;
    static final int NULL = -1000011, PLACE = -1000012, KIND = -1000013, SIZE = -1000014, STORE = -1000015;
    static final int LEAST = Integer.MIN_VALUE, MOST = Integer.MAX_VALUE;

    private static int passed = 0;
    private static int failed = 0;

    private Checks() {
    }

    static void due(String call, long got, long want) {
        if (got == want) {
            passed++;
        } else {
            failed++;
            System.out.println(call + " answered " + got + ", due is " + want);
        }
    }

    static void same(String call, String got, String want) {
        if (got.equals(want)) {
            passed++;
        } else {
            failed++;
            System.out.println(call + " left " + got + ", due is " + want);
        }
    }

    static void end(String test) {
        System.out.println(test + ": " + passed + " passed, " + failed + " failed");
        if (failed != 0) {
            System.exit(1);
        }
    }
}
