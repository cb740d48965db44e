import java.lang.reflect.InvocationTargetException;
import java.lang.reflect.Method;
import java.lang.reflect.Modifier;
import java.util.ArrayList;
import java.util.Arrays;
import java.util.Comparator;
import java.util.List;
import java.util.Random;

/**
 * Long runs of calls with ordinary, edge and wrong arguments, the same in every run of the test.
 * A call throws only what the face declares; one that throws changes nothing (a twin that is spared
 * the refused calls answers alike); no cents are lost.
 */
public final class RandomRunsTest {
    private static final int RUNS = 400;
    /** An object answers for 512 calls, and those at the end that look at its state are at most 170. */
    private static final int CALLS = 330;
    private static final int[] EDGES = {
        Integer.MIN_VALUE, -1, 0, 1, 6, 7, 8, 9, 19, 20, 21, 30, 31, 100, 101, 119, 120, 121, Integer.MAX_VALUE,
    };
    private static final long[] CENTS = {
        Long.MIN_VALUE, -1000000001L, -1000000000L, -1, 0, 1, 1000000000L, 1000000001L, 1L << 32, Long.MAX_VALUE,
    };
    private static final Check CHECK = new Check();
    private static final List<Method> METHODS = publicMethods();

    private final Random random;
    private final String name;
    private final OwnerLedger ledger = new OwnerLedger();
    private final OwnerLedger twin = new OwnerLedger();
    private int calls;
    private int batches;
    private long paid;
    private long invoiced;

    private RandomRunsTest(int seed) {
        random = new Random(seed);
        name = "random run " + seed;
    }

    public static void main(String[] args) {
        for (int seed = 0; seed < RUNS; seed++) {
            new RandomRunsTest(seed).run();
        }
        CHECK.end();
    }

    private static List<Method> publicMethods() {
        List<Method> found = new ArrayList<>();
        for (Method method : OwnerLedger.class.getDeclaredMethods()) {
            if (Modifier.isPublic(method.getModifiers())) {
                found.add(method);
            }
        }
        // The order in which reflection tells methods is not fixed.
        found.sort(Comparator.comparing(Method::getName));
        return found;
    }

    private void run() {
        for (int i = 0; i < 3; i++) {
            call("owner");
            call("account", i, 0);
            call("account", i, i);
        }
        while (calls < CALLS - 3) {
            step();
        }
        CHECK.same(name + ": the twin's state", observe(ledger).toString(), observe(twin).toString());
        keepsCents();
    }

    private void step() {
        if (random.nextInt(8) == 0) {
            // Rows of random cents hardly ever sum to 0, so some are written in pairs.
            int batch = batches;
            long cents = 1 + random.nextInt(1000);
            call("row", batch, random.nextInt(3) * 2, cents);
            call("row", batch, random.nextInt(3) * 2, -cents);
            call("post", batch);
            return;
        }
        Method method = METHODS.get(random.nextInt(METHODS.size()));
        call(method.getName(), arguments(method));
    }

    private Object[] arguments(Method method) {
        Class<?>[] types = method.getParameterTypes();
        Object[] values = new Object[types.length];
        for (int i = 0; i < types.length; i++) {
            if (types[i] == boolean.class) {
                values[i] = random.nextBoolean();
            } else if (types[i] == long.class) {
                values[i] = random.nextInt(6) == 0 ? CENTS[random.nextInt(CENTS.length)]
                        : Long.valueOf(1 + random.nextInt(1000));
            } else {
                values[i] = random.nextInt(6) == 0 && !method.getName().equals("month")
                        ? EDGES[random.nextInt(EDGES.length)] : random.nextInt(7);
            }
        }
        return values;
    }

    private void call(String called, Object... values) {
        Method method = find(called);
        String what = name + ": " + called + Arrays.toString(values);
        Object got;
        calls++;
        try {
            got = method.invoke(ledger, values);
        } catch (InvocationTargetException e) {
            Class<?> thrown = e.getCause().getClass();
            CHECK.same(what + " throws " + thrown.getName() + ", which is declared", "true",
                    String.valueOf(Arrays.asList(method.getExceptionTypes()).contains(thrown)));
            return;
        } catch (IllegalAccessException e) {
            throw new AssertionError(e);
        }
        try {
            CHECK.same(what + " of the twin", String.valueOf(got), String.valueOf(method.invoke(twin, values)));
        } catch (InvocationTargetException | IllegalAccessException e) {
            CHECK.same(what + " of the twin", String.valueOf(got), e.toString());
        }
        remember(called, values, got);
    }

    private static Method find(String called) {
        for (Method method : METHODS) {
            if (method.getName().equals(called)) {
                return method;
            }
        }
        throw new AssertionError(called);
    }

    private void remember(String called, Object[] values, Object got) {
        if (called.equals("batch") || called.equals("reverse")) {
            batches = (Integer) got;
        }
        if (called.equals("pay") || called.equals("settle")) {
            paid += (Long) values[1];
        }
        if (called.equals("invoice")) {
            invoiced += (Long) values[1];
        }
    }

    private static List<Long> observe(OwnerLedger x) {
        List<Long> seen = new ArrayList<>();
        for (int what = 0; what <= 8; what++) {
            seen.add((long) x.count(what));
        }
        for (int owner = 0; owner < seen.get(0); owner++) {
            seen.add(x.credit(owner));
        }
        for (int account = 0; account < seen.get(1); account++) {
            seen.add(x.balance(account, 120));
        }
        for (int batch = 1; batch <= seen.get(2); batch++) {
            seen.add((long) x.told(batch, 0));
            seen.add((long) x.told(batch, 2));
        }
        for (int invoice = 1; invoice <= seen.get(4); invoice++) {
            seen.add(x.known(invoice, 0));
            seen.add(x.known(invoice, 1));
        }
        return seen;
    }

    private void keepsCents() {
        for (int currency = 0; currency <= 2; currency++) {
            CHECK.same(name + ": all(" + currency + ")", "0", String.valueOf(ledger.all(currency)));
        }
        long left = 0;
        int owners = ledger.count(0);
        int invoices = ledger.count(4);
        for (int invoice = 1; invoice <= invoices; invoice++) {
            left -= ledger.known(invoice, 0);
        }
        for (int owner = 0; owner < owners; owner++) {
            left += ledger.credit(owner);
        }
        CHECK.same(name + ": paid cents less invoiced ones", String.valueOf(paid - invoiced), String.valueOf(left));
    }
}
