/** Promises 12 to 15. */
public final class LeasesTest {
    private static final int BAD = Checks.BAD, STATE = Checks.STATE, FULL = Checks.FULL;

    public static void main(String[] args) {
        leasesOffered();
        lengthsRise();
        leaseAfterDays();
        days();
        allTightSpansAreBought();
        fourLeases();
        dayRefusals();
        leasesOfAll();
        leastTakesDearerAndCheaper();
        cheaperLongLease();
        covered();
        Checks.end("LeasesTest");
    }

    private static void due(String call, long got, long want) {
        Checks.due(call, got, want);
    }

    private static void leasesOffered() {
        BuyAsAsked x = new BuyAsAsked();
        due("12: length below", x.lease(0, 1), BAD);
        due("12: length above", x.lease(65, 1), BAD);
        due("12: far below", x.lease(Checks.LEAST, 1), BAD);
        due("12: cost below", x.lease(1, 0), BAD);
        due("12: cost above", x.lease(1, 1001), BAD);
        due("12: the least", x.lease(1, 1000), 0);
        due("12: number 1", x.lease(2, 1), 1);
        due("12: number 2", x.lease(8, 1), 2);
        due("12: number 3", x.lease(32, 1), 3);
        due("12: a fifth", x.lease(64, 1), FULL);
        due("12: STATE goes ahead of FULL", x.lease(48, 1), STATE);
        due("12: BAD goes ahead of STATE", x.lease(48, 0), BAD);
        due("12: four stand", x.count(4), 4);
    }

    private static void lengthsRise() {
        BuyAsAsked x = new BuyAsAsked();
        due("12: any first one", x.lease(7, 3), 0);
        due("12: the same", x.lease(7, 3), STATE);
        due("12: less", x.lease(1, 3), STATE);
        due("12: no multiple", x.lease(15, 3), STATE);
        due("12: twice", x.lease(14, 3), 1);
        due("12: of the first, not of the one ahead", x.lease(21, 3), STATE);
        due("12: three times", x.lease(42, 3), 2);
        due("12: no room", x.lease(64, 3), STATE);
        due("12: three stand", x.count(4), 3);
        due("12: the longest", new BuyAsAsked().lease(64, 3), 0);
    }

    private static void leaseAfterDays() {
        BuyAsAsked x = new BuyAsAsked();
        due("12: a refused day is none", x.day(0), STATE);
        due("12: still open", x.lease(1, 3), 0);
        x.day(0);
        due("12: a day was asked", x.lease(2, 3), STATE);
        due("12: BAD goes ahead", x.lease(2, 0), BAD);
    }

    private static void days() {
        BuyAsAsked x = new BuyAsAsked();
        x.lease(2, 5);
        x.lease(4, 8);
        due("13: the first SPAN", x.day(3), 5);
        due("13: its SPAN is 2 and 3", x.covered(2), 1);
        due("13: not 4", x.covered(4), 0);
        due("13: another SPAN", x.day(5), 5);
        due("13: another price", x.leases(1), 10);
        due("13: two days of three left", x.day(7), 8);
        due("13: the price of what was missing", x.leases(1), 13);
        due("13: all in one", x.leases(4), 3);
    }

    private static void allTightSpansAreBought() {
        BuyAsAsked x = new BuyAsAsked();
        x.lease(1, 4);
        x.lease(2, 8);
        x.lease(4, 8);
        due("13: one", x.day(0), 4);
        due("13: three at once", x.day(1), 4 + 8 + 8);
        due("13: covered", x.day(3), 0);
        due("13: four SPANS", x.leases(4), 4);
        due("13: a SPAN that ends beyond the days", x.day(127), 4);
    }

    private static void fourLeases() {
        BuyAsAsked x = new BuyAsAsked();
        x.lease(1, 2);
        x.lease(2, 3);
        x.lease(4, 5);
        x.lease(64, 6);
        int[] paid = {2, 3, 2 + 5, 0, 6};
        int[] best = {2, 3, 5, 5, 6};
        for (int d = 0; d < paid.length; d++) {
            due("13: day " + d, x.day(d), paid[d]);
            due("14: BEST to day " + d, x.leases(2), best[d]);
        }
        due("15: by the longest", x.covered(63), 1);
        due("15: no further", x.covered(64), 0);
    }

    private static void dayRefusals() {
        BuyAsAsked x = new BuyAsAsked();
        due("13: no LEASES", x.day(5), STATE);
        due("13: BAD goes ahead", x.day(128), BAD);
        x.lease(1, 4);
        due("13: below", x.day(-1), BAD);
        due("13: above", x.day(128), BAD);
        due("13: far below", x.day(Checks.LEAST), BAD);
        due("13: far above", x.day(Checks.MOST), BAD);
        due("13: a day", x.day(5), 4);
        due("13: as late", x.day(5), STATE);
        due("13: later was asked", x.day(4), STATE);
        due("13: one asked", x.leases(3), 1);
        due("13: the last", x.day(127), 4);
        due("13: nothing later", x.day(127), STATE);
    }

    private static void leasesOfAll() {
        BuyAsAsked x = new BuyAsAsked();
        x.lease(1, 3);
        x.lease(4, 8);
        x.day(0);
        x.day(1);
        x.day(2);
        x.day(3);
        due("14: paid", x.leases(0), 3 + 3 + 8);
        due("14: prices", x.leases(1), 8);
        due("14: BEST", x.leases(2), 8);
        due("14: asked", x.leases(3), 4);
        due("14: SPANS", x.leases(4), 3);
        due("14: below", x.leases(-1), BAD);
        due("14: above", x.leases(5), BAD);
        due("14: far above", x.leases(Checks.MOST), BAD);
    }

    private static void leastTakesDearerAndCheaper() {
        BuyAsAsked x = new BuyAsAsked();
        x.lease(2, 5);
        x.lease(8, 12);
        x.day(1);
        due("14: BEST of one", x.leases(2), 5);
        x.day(3);
        due("14: BEST of two", x.leases(2), 10);
        x.day(6);
        due("14: BEST of a long one", x.leases(2), 12);
        x.day(9);
        due("14: BEST of both", x.leases(2), 17);
        BuyAsAsked y = new BuyAsAsked();
        y.lease(64, 1000);
        y.day(63);
        y.day(64);
        due("14: BEST of two long ones", y.leases(2), 2000);
    }

    private static void cheaperLongLease() {
        BuyAsAsked x = new BuyAsAsked();
        x.lease(1, 9);
        x.lease(64, 2);
        due("13: a long one is cheaper", x.day(70), 2);
        due("14: BEST is cheaper too", x.leases(2), 2);
        due("15: all of its SPAN", x.covered(64), 1);
        due("15: none ahead of it", x.covered(63), 0);
        due("15: to its end", x.covered(127), 1);
    }

    private static void covered() {
        BuyAsAsked x = new BuyAsAsked();
        due("15: no LEASES", x.covered(0), 0);
        due("15: below", x.covered(-1), BAD);
        due("15: above", x.covered(128), BAD);
        x.lease(3, 2);
        due("15: nothing bought", x.covered(4), 0);
        x.day(4);
        due("15: ahead", x.covered(2), 0);
        due("15: first", x.covered(3), 1);
        due("15: last", x.covered(5), 1);
        due("15: behind", x.covered(6), 0);
        x.day(127);
        due("15: a SPAN cut by the end", x.covered(126), 1);
    }
}
