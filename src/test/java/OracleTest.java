import java.lang.reflect.InvocationTargetException;
import java.lang.reflect.Method;
import java.lang.reflect.Modifier;
import java.util.ArrayList;
import java.util.Comparator;
import java.util.List;
import java.util.Random;

/** Runs of drawn calls on a new object and on a new Oracle: all answers and states must be alike. */
public final class OracleTest {
    private static final int RUNS = 200;
    private static final int CALLS = 500;
    private static final Check CHECK = new Check();
    private static final String[] TOKENS = {"places", "way", "no", "person", "at", "hour", "chance",
        ";", " ", "0", "1", "5", "6", "12", "13", "999", "1000", "wax", "!", "A"};

    private final Random random;
    private final int run;
    private final ShowsWhereNobodyIs x = new ShowsWhereNobodyIs();
    private final Oracle oracle = new Oracle();
    private final List<Method> methods = new ArrayList<>();
    private final List<String> told = new ArrayList<>();
    private int calls;
    private boolean failed;

    private OracleTest(int run) {
        this.run = run;
        random = new Random(run);
        for (Method m : ShowsWhereNobodyIs.class.getDeclaredMethods()) {
            if (Modifier.isPublic(m.getModifiers())) {
                methods.add(m);
            }
        }
        methods.sort(Comparator.comparing(Method::getName));
    }

    public static void main(String[] args) throws Exception {
        for (int run = 0; run < RUNS; run++) {
            new OracleTest(run).go();
        }
        CHECK.end();
    }

    private void go() throws Exception {
        if (random.nextInt(4) != 0) {
            buildTown();
        }
        while (calls < CALLS && !failed) {
            int dice = random.nextInt(40);
            if (dice == 0) {
                feedTown();
            } else if (dice < 4) {
                tellWatch();
            } else {
                Method m = methods.get(random.nextInt(methods.size()));
                call(m.getName(), drawArguments(m));
            }
        }
    }

    private void buildTown() throws Exception {
        int n = 6 + random.nextInt(7);
        call("places", n);
        int ways = random.nextInt(2 * n);
        for (int i = 0; i < ways; i++) {
            call("way", random.nextInt(n), random.nextInt(n), true);
        }
        int people = random.nextInt(9);
        for (int i = 0; i < people; i++) {
            call("person", random.nextInt(6), random.nextInt(10), random.nextInt(n), random.nextInt(n));
            call("put", i, 0, random.nextInt(n));
        }
        call("tell", 0, random.nextInt(10) == 0 ? 9970 + random.nextInt(30) : random.nextInt(60));
        call("tell", 1, random.nextInt(13));
    }

    private void feedTown() throws Exception {
        StringBuilder text = new StringBuilder();
        int statements = 1 + random.nextInt(4);
        for (int i = 0; i < statements; i++) {
            text.append(i == 0 ? "" : ";").append(drawStatement());
        }
        if (random.nextInt(3) == 0) {
            text.insert(random.nextInt(text.length() + 1), TOKENS[random.nextInt(TOKENS.length)]);
        }
        if (random.nextInt(6) == 0) {
            text.setLength(random.nextInt(text.length() + 1));
        }
        if (random.nextInt(8) != 0) {
            call("wipe");
        }
        for (int i = 0; i < text.length(); i++) {
            call("feed", (int) text.charAt(i));
        }
        call("town");
    }

    private String drawStatement() {
        int n = x.status(0);
        switch (random.nextInt(7)) {
            case 0: return "places " + (n + random.nextInt(10) / 9);
            case 1: return "way " + random.nextInt(n) + " " + random.nextInt(n);
            case 2: return "no " + random.nextInt(n) + " " + random.nextInt(n);
            case 3: return "person " + random.nextInt(6) + " " + random.nextInt(10) + " "
                + random.nextInt(n) + "  " + random.nextInt(n);
            case 4: return "at " + random.nextInt(Math.max(1, x.status(2))) + " " + random.nextInt(n);
            case 5: return "hour " + random.nextInt(60);
            default: return "chance" + random.nextInt(13);
        }
    }

    /** What shines, told in a row, so that starts and kinds have something to find. */
    private void tellWatch() throws Exception {
        int s = random.nextInt(8);
        int n = 1 + random.nextInt(8);
        call("row", s, 1 + random.nextInt(3), n);
        int people = x.status(2);
        int who = random.nextInt(Math.max(1, people));
        boolean isElsewhere = people > 0 && random.nextInt(3) == 0;
        int at = isElsewhere ? x.personOf(who, 4) : -1;
        if (isElsewhere) {
            call("put", who, 0, random.nextInt(x.status(0)));
        }
        for (int i = 0; i < n; i++) {
            call("set", s, i, (long) x.shines(i, 0));
        }
        if (isElsewhere) {
            call("put", who, 0, at);
        }
        int first = random.nextInt(n + 1);
        call("starts", s, first, who);
        call("kinds", s, first, who);
        call("judge", s, n);
    }

    private Object[] drawArguments(Method m) {
        Class<?>[] types = m.getParameterTypes();
        Object[] args = new Object[types.length];
        for (int i = 0; i < types.length; i++) {
            if (types[i] == boolean.class) {
                args[i] = random.nextInt(3) != 0;
            } else if (types[i] == long.class) {
                args[i] = random.nextBoolean() ? random.nextLong() : (long) random.nextInt(64);
            } else {
                args[i] = drawInt();
            }
        }
        return args;
    }

    private int drawInt() {
        int[] edges = {-2, -1, 12, 13, 23, 24, 25, 39, 40, 41, 47, 48, 49, 255, 256, 9999, 10000,
            Integer.MAX_VALUE, Integer.MIN_VALUE, Integer.MAX_VALUE - 1};
        int dice = random.nextInt(20);
        if (dice < 13) {
            return random.nextInt(6);
        }
        if (dice < 16) {
            return random.nextInt(13);
        }
        return dice < 18 ? random.nextInt(50) : edges[random.nextInt(edges.length)];
    }

    private void call(String name, Object... args) throws Exception {
        if (failed) {
            return;
        }
        calls++;
        Method m = null;
        for (Method each : methods) {
            m = each.getName().equals(name) ? each : m;
        }
        StringBuilder text = new StringBuilder(name);
        for (Object arg : args) {
            text.append(' ').append(arg);
        }
        told.add(text.toString());
        long got = ((Number) m.invoke(x, args)).longValue();
        long want = askOracle(name, m.getParameterTypes(), args);
        compare(text.toString(), got, want);
    }

    private long askOracle(String name, Class<?>[] types, Object[] args) throws Exception {
        try {
            Method m = Oracle.class.getDeclaredMethod(name, types);
            return ((Number) m.invoke(oracle, args)).longValue();
        } catch (InvocationTargetException e) {
            if (!(e.getCause() instanceof Oracle.Refused refused)) {
                throw e;
            }
            oracle.count(refused.reason <= -20 ? -2 : refused.reason);
            return refused.reason;
        }
    }

    private void compare(String call, long got, long want) {
        CHECK.due("run " + run + ", call " + calls + ": " + call, got, want);
        failed |= got != want;
        for (int what = -1; what <= 17; what++) {
            int is = x.status(what);
            int due = oracle.status(what);
            if (is != due) {
                CHECK.due("run " + run + ", call " + calls + ": behind " + call + " status " + what, is, due);
                failed = true;
            }
        }
        for (int person = 0; person < x.status(2) && !failed; person++) {
            for (int what = 0; what <= 5; what++) {
                int is = x.personOf(person, what);
                int due = oracle.personOf(person, what);
                if (is != due) {
                    CHECK.due("behind " + call + " personOf " + person + ", " + what, is, due);
                    failed = true;
                }
            }
        }
        if (failed) {
            CHECK.fail("run " + run + " was: " + told);
        }
    }
}
