import java.lang.reflect.InvocationTargetException;
import java.lang.reflect.Method;
import java.util.Arrays;
import java.util.Comparator;
import java.util.function.Supplier;

/**
 * Runs the cases of a test: each static method whose name begins with the number of its promise, as
 * p06CostOf1001IsBad, is one. p00 stands for the terms ahead of the promises.
 */
final class Cases {
    private static final int FINDINGS = -1000010;

    private static String current = "";

    /** A call on an object, with the one number that a case tries several of. */
    interface With {
        int of(BuyAsAsked x, int number);
    }

    interface Call {
        int on(BuyAsAsked x);
    }

    private Cases() {
    }

    /** Fails, too, if one of the promises from first to last has no case. */
    static void run(Class<?> test, int first, int last) {
        boolean[] has = new boolean[100];
        Method[] methods = test.getDeclaredMethods();
        Arrays.sort(methods, Comparator.comparing(Method::getName));
        for (Method method : methods) {
            if (method.getName().matches("p\\d\\d[A-Z]\\w*")) {
                has[Integer.parseInt(method.getName().substring(1, 3))] = true;
                runCase(method);
            }
        }
        for (int promise = first; promise <= last; promise++) {
            Checks.due("cases of promise " + promise, has[promise] ? 1 : 0, 1);
        }
        Checks.end(test.getName());
    }

    private static void runCase(Method method) {
        current = method.getName();
        try {
            method.invoke(null);
        } catch (InvocationTargetException thrown) {
            Checks.same(current, "it threw " + thrown.getCause(), "nothing thrown");
        } catch (IllegalAccessException hidden) {
            Checks.same(current, "it is hidden", "a case that can be run");
        }
    }

    static void due(long got, long want) {
        Checks.due(current, got, want);
    }

    static void due(String call, long got, long want) {
        Checks.due(current + ": " + call, got, want);
    }

    /** Each of the numbers is BAD, for a new object and for one that is in use, and changes nothing. */
    static void bad(With call, int... numbers) {
        for (int number : numbers) {
            refused(BuyAsAsked::new, x -> call.of(x, number), Checks.BAD);
            refused(Cases::inUse, x -> call.of(x, number), Checks.BAD);
        }
    }

    /** The call answers so, and the object goes on as one on which it was never made; but for status(), if it found. */
    static void refused(Supplier<BuyAsAsked> made, Call call, int want) {
        BuyAsAsked x = made.get();
        BuyAsAsked twin = made.get();
        due(call.on(x), want);
        due("status", x.status(), want < FINDINGS ? FINDINGS - want : twin.status());
        Checks.same(current, told(x), told(twin));
        Checks.same(current + ", then", used(x), used(twin));
    }

    /**
     * An object with something of every part. SETS: 0 is OPEN (FILLED 4 of 20), 1 NEAR (4 of 7), 2 OWN, 3 and 4 are
     * untouched. SHEETS: 0 (bytes) has THINGS 5, 2, 1, 1 (shorts) none, 2 (ints) sixty. LEASES of 2 and 6 days, day 4
     * asked. SITES: 0 and 2 are JOINED over 1; 3 hangs on 2, 4 on nothing. THE TRACE has 12, 11, 10, 21, 20.
     * status() is 5.
     */
    static BuyAsAsked inUse() {
        BuyAsAsked x = new BuyAsAsked();
        x.offer(20, 0b111);
        x.offer(7, 0b11);
        x.offer(4, 0b1001);
        x.offer(9, 0b110000);
        x.offer(8, 0b100000);
        x.demand(0);
        x.lease(2, 3);
        x.lease(6, 5);
        x.day(4);
        for (int site = 0; site < 5; site++) {
            x.site();
        }
        x.way(0, 1, 2);
        x.way(1, 2, 3);
        x.way(2, 3, 1);
        x.call(0);
        x.call(2);
        x.sheet(0, 0, 3);
        x.set(0, 0, 5);
        x.set(0, 1, 2);
        x.set(0, 2, 1);
        x.sheet(1, 1, 0);
        x.sheet(2, 2, 60);
        x.ask(1, 0);
        x.copy(0, 0, 1, 0, 1);
        return x;
    }

    /** All that can be read of an object and leaves it as it is. */
    private static String told(BuyAsAsked x) {
        StringBuilder all = new StringBuilder();
        for (int what = 0; what < 7; what++) {
            all.append(x.count(what)).append(' ').append(x.covers(what)).append(' ');
            all.append(x.leases(what)).append(' ').append(x.joins(what)).append(' ').append(x.trace(what)).append(' ');
        }
        for (int thing = 0; thing < 12; thing++) {
            all.append(x.price(thing)).append(' ');
        }
        for (int set = 0; set < x.count(1); set++) {
            all.append(x.kind(set)).append(' ').append(x.told(set, 0)).append(' ').append(x.told(set, 1)).append(' ');
        }
        for (int d : new int[] {0, 1, 2, 3, 4, 5, 6, 63, 64, 126, 127}) {
            all.append(x.covered(d)).append(' ');
        }
        return all.toString();
    }

    /** What an object answers that is used further: what told() can't see of it comes out here. */
    private static String used(BuyAsAsked x) {
        StringBuilder all = new StringBuilder();
        for (int sheet = 0; sheet < 8; sheet++) {
            for (int i = 0; i < 3; i++) {
                all.append(x.demands(sheet, i, 1)).append(' ');
            }
            all.append(x.set(sheet, 0, 70000)).append(' ').append(x.drop(sheet)).append(' ');
        }
        all.append(x.offer(3, 1)).append(' ').append(x.lease(24, 9)).append(' ');
        all.append(x.demand(0)).append(' ').append(x.demand(4)).append(' ');
        all.append(x.day(0)).append(' ').append(x.day(5)).append(' ').append(x.day(6)).append(' ');
        all.append(x.site()).append(' ').append(x.call(3)).append(' ').append(x.call(4)).append(' ');
        for (int a = 0; a < 6; a++) {
            for (int b = a + 1; b < 6; b++) {
                all.append(x.way(a, b, 1)).append(' ');
            }
        }
        return all.append(x.call(1)).append(' ').append(x.call(5)).append(' ').append(told(x)).toString();
    }
}
