import java.util.Random;

/**
 * Runs of 512 calls with any arguments, wrong ones among them: each call answers or throws what the Oracle does, and
 * nothing else is left behind it.
 */
final class AnyCallsTest {
    private static final int OBJECTS = 500;
    private static final int CALLS = 512;
    private static final int[] EDGES = {Integer.MIN_VALUE, -10, -9, -2, -1, 0, 1, 2, 3, 4, 7, 8, 9, 10, 17, 18, 47, 48,
        Integer.MAX_VALUE};
    private static final double[] VALUES = {Double.NaN, Double.POSITIVE_INFINITY, Double.NEGATIVE_INFINITY, 1e9, -1e9,
        1.0000001e9, Double.MIN_VALUE, -0.0, 0.5, -0.5, 3};

    private final Random random;
    private final NameForge x = new NameForge();
    private final Oracle oracle = new Oracle();

    private AnyCallsTest(long seed) {
        random = new Random(seed);
    }

    public static void main(String[] args) {
        for (int seed = 0; seed < OBJECTS; seed++) {
            AnyCallsTest test = new AnyCallsTest(seed);
            for (int i = 0; i < CALLS; i++) {
                test.anyCall("object " + seed + ", call " + i);
            }
        }
        for (int seed = 0; seed < OBJECTS; seed++) {
            new AnyCallsTest(seed).callsThatChange("object " + seed);
        }
        Check.end();
    }

    /** Looks at all there is now and then: to look is a call too, so of the 512 only 60 are left for others. */
    private void callsThatChange(String what) {
        for (int i = 0; i < 60; i++) {
            anyCall(what + ", call " + i + " of those looked at");
            if (i % 10 == 9) {
                oracle.compareState(what + " behind call " + i, x);
            }
        }
        oracle.compareNodes(what + " at last", x);
    }

    private int any() {
        boolean isEdge = random.nextInt(6) == 0;
        return isEdge ? EDGES[random.nextInt(EDGES.length)] : random.nextInt(Math.max(4, oracle.count(0)));
    }

    /** Mostly right for a part that is no node. */
    private int anySmall() {
        return random.nextInt(3) == 0 ? any() : random.nextInt(3);
    }

    private void anyCall(String what) {
        int pick = random.nextInt(24);
        if (pick < 9) {
            anyMake(what);
        } else if (pick < 11) {
            anyProcedure(what);
        } else if (pick < 17) {
            int n = any();
            Check.same(what + ": work(" + n + ")", () -> oracle.work(n), () -> x.work(n));
        } else if (pick == 17) {
            anyBounds(what);
        } else if (pick == 18) {
            int i = any();
            double v = random.nextBoolean() ? VALUES[random.nextInt(VALUES.length)] : random.nextInt(99) / 8.0 - 6;
            Check.same(what + ": put(" + i + ", " + v + ")", () -> oracle.put(i, v), () -> x.put(i, v));
        } else if (pick < 23) {
            ask(what, pick);
        } else if (random.nextInt(4) == 0) {
            Check.same(what + ": clear()", () -> oracle.clear(), () -> x.clear());
        }
    }

    private void anyMake(String what) {
        int kind = random.nextInt(20) - 1;
        int a = kind == 1 || kind >= 10 && kind <= 12 || kind >= 16 ? anySmall() : any();
        int b = any();
        int c = any();
        Check.same(what + ": make(" + kind + ", " + a + ", " + b + ", " + c + ")",
                () -> oracle.make(kind, a, b, c), () -> x.make(kind, a, b, c));
    }

    private void anyProcedure(String what) {
        int p = anySmall();
        int body = any();
        int n = anySmall();
        int names = anySmall();
        Check.same(what + ": procedure(" + p + ", " + body + ", " + n + ", " + names + ")", () -> {
            oracle.procedure(p, body, n, names);
            return 0;
        }, () -> {
            x.procedure(p, body, n, names);
            return 0;
        });
    }

    private void anyBounds(String what) {
        int low = anySmall();
        int high = random.nextInt(3) == 0 ? anySmall() : low + random.nextInt(6);
        int low2 = anySmall();
        int high2 = random.nextInt(3) == 0 ? anySmall() : low2 + random.nextInt(6);
        Check.same(what + ": bounds(" + low + ", " + high + ", " + low2 + ", " + high2 + ")",
                () -> oracle.bounds(low, high, low2, high2), () -> x.bounds(low, high, low2, high2));
    }

    private void ask(String what, int pick) {
        int i = any();
        int j = anySmall();
        if (pick == 19) {
            Check.same(what + ": variable(" + i + ")", () -> oracle.variable(i), () -> x.variable(i));
        } else if (pick == 20) {
            Check.same(what + ": element(" + j + ", " + i + ")", () -> oracle.element(j, i), () -> x.element(j, i));
        } else if (pick == 21) {
            Check.same(what + ": node(" + i + ", " + j + ")", () -> oracle.node(i, j), () -> x.node(i, j));
        } else {
            Check.same(what + ": count(" + i + ")", () -> oracle.count(i), () -> x.count(i));
        }
    }
}
