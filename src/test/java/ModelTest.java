import java.util.Random;
import java.util.function.Supplier;

/** Promises 1 to 20 at once: runs of 512 calls, by fixed seeds, on the class and on the model beside it. */
public final class ModelTest {
    private static final int CALLS = 512;
    private static final int RUNS = 400;

    private final Random random;
    private final int addresses;
    private final int functions;
    private final int wrongInHundred;
    private final CrashBuckets x = new CrashBuckets();
    private final Model m = new Model();
    private String call = "";

    private ModelTest(long seed) {
        random = new Random(seed);
        addresses = seed % 2 == 0 ? 12 : 10000;
        functions = seed % 3 == 0 ? 4 : 30;
        wrongInHundred = seed % 4 == 0 ? 10 : 2;
    }

    public static void main(String[] args) {
        for (long seed = 0; seed < RUNS; seed++) {
            ModelTest test = new ModelTest(seed);
            for (int number = 0; number < CALLS; number++) {
                test.oneCall("seed " + seed + " call " + number);
            }
        }
        Check.end();
    }

    private static String answerOf(Supplier<Object> call) {
        try {
            return String.valueOf(call.get());
        } catch (RuntimeException e) {
            return e.getClass().getName();
        }
    }

    /** A number below the bound, and now and then one that lies outside or just at the edge. */
    private int some(int least, int bound) {
        if (random.nextInt(100) < wrongInHundred) {
            int[] odd = {least - 1, bound, least, bound - 1, -2, Integer.MIN_VALUE, Integer.MAX_VALUE};
            return odd[random.nextInt(odd.length)];
        }
        return least + random.nextInt(bound - least);
    }

    private int someReport() {
        return some(0, Math.max(1, m.reports()));
    }

    private int someSessions() {
        int[] bounds = {1, 49, 51, 120, 1000, 30000, 1000001};
        return some(0, bounds[random.nextInt(bounds.length)]);
    }

    private void compare(String where, String what, Supplier<Object> want, Supplier<Object> got) {
        call = where + ": " + what;
        String due = answerOf(want);
        String is = answerOf(got);
        Check.due(call + " is " + is + ", due is " + due, true, due.equals(is));
    }

    private void oneCall(String where) {
        int kind = random.nextInt(26);
        if (kind < 9) {
            tell(where, kind);
        } else {
            ask(where, kind);
        }
    }

    private void tell(String where, int kind) {
        int a = some(0, functions);
        int b = some(0, functions);
        int v = some(0, 4);
        switch (kind) {
            case 0, 1 -> {
                int from = some(0, addresses);
                int width = random.nextInt(addresses / 6);
                int to = random.nextInt(30) == 0 ? some(0, addresses) : Math.min(from + width, addresses - 1);
                compare(where, "addRange " + v + " " + from + " " + to + " " + a,
                        () -> m.addRange(v, from, to, a), () -> x.addRange(v, from, to, a));
            }
            case 2 -> {
                boolean is = random.nextBoolean();
                compare(where, "ignore " + a + " " + is, () -> m.ignore(a, is), () -> x.ignore(a, is));
            }
            case 3 -> compare(where, "standFor " + a + " " + b, () -> m.standFor(a, b), () -> x.standFor(a, b));
            case 4 -> {
                int other = random.nextInt(3) == 0 ? a : b;
                compare(where, "standFor " + a + " " + other,
                        () -> m.standFor(a, other), () -> x.standFor(a, other));
            }
            case 5 -> {
                int depth = some(1, 5);
                compare(where, "setDepth " + depth, () -> m.setDepth(depth), () -> x.setDepth(depth));
            }
            default -> tellReport(where, v);
        }
    }

    private void tellReport(String where, int v) {
        int length = 1 + random.nextInt(4);
        int user = some(0, random.nextBoolean() ? 3 : 20);
        int first = some(0, addresses);
        int second = length > 1 ? some(0, addresses) : -1;
        int third = length > 2 ? some(0, addresses) : -1;
        int fourth = length > 3 ? some(0, addresses) : -1;
        compare(where, "report " + v + " " + user + " " + first + " " + second + " " + third + " " + fourth,
                () -> m.report(v, user, first, second, third, fourth),
                () -> x.report(v, user, first, second, third, fourth));
    }

    private void ask(String where, int kind) {
        int r = someReport();
        int p = some(0, 4);
        int v = some(0, 4);
        switch (kind) {
            case 9 -> compare(where, "reports", m::reports, x::reports);
            case 10 -> compare(where, "frame " + r + " " + p, () -> m.frame(r, p), () -> x.frame(r, p));
            case 11, 12 -> compare(where, "matters " + r + " " + p, () -> m.matters(r, p), () -> x.matters(r, p));
            case 13, 14 -> compare(where, "bucket " + r, () -> m.bucket(r), () -> x.bucket(r));
            case 15 -> compare(where, "buckets", m::buckets, x::buckets);
            case 16 -> compare(where, "size " + r, () -> m.size(r), () -> x.size(r));
            case 17, 18 -> {
                int s = someSessions();
                compare(where, "setSessions " + v + " " + s, () -> m.setSessions(v, s), () -> x.setSessions(v, s));
            }
            case 19 -> {
                int limit = some(1, random.nextBoolean() ? 300 : 10001);
                compare(where, "setLimit " + limit, () -> m.setLimit(limit), () -> x.setLimit(limit));
            }
            case 20 -> compare(where, "rate " + r + " " + v, () -> m.rate(r, v), () -> x.rate(r, v));
            case 21 -> compare(where, "users " + r + " " + v, () -> m.users(r, v), () -> x.users(r, v));
            case 22 -> compare(where, "gate " + v, () -> m.gate(v), () -> x.gate(v));
            case 23 -> compare(where, "worst " + v, () -> m.worst(v), () -> x.worst(v));
            case 24 -> compare(where, "fix " + r + " " + v, () -> m.fix(r, v), () -> x.fix(r, v));
            default -> compare(where, "holds " + r, () -> m.holds(r), () -> x.holds(r));
        }
    }
}
