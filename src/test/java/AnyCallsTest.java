import java.util.NoSuchElementException;
import java.util.Random;
import java.util.Set;

/** Calls with any arguments, wrong ones among them: no call throws what its line of the face does not tell. */
final class AnyCallsTest {
    private static final int OBJECTS = 400;
    private static final int CALLS = 512;
    private static final int[] EDGES = {Integer.MIN_VALUE, -10, -9, -2, -1, 0, 1, 2, 3, 4, 7, 8, 9, 10, 17, 18, 47, 48,
        Integer.MAX_VALUE};
    private static final double[] VALUES = {Double.NaN, Double.POSITIVE_INFINITY, Double.NEGATIVE_INFINITY, 1e9, -1e9,
        1.0000001e9, Double.MIN_VALUE, -0.0, 0.5, -0.5, 3};

    private final Random random;
    private final NameForge x = new NameForge();

    private AnyCallsTest(long seed) {
        random = new Random(seed);
    }

    public static void main(String[] args) {
        for (int seed = 0; seed < OBJECTS; seed++) {
            AnyCallsTest test = new AnyCallsTest(seed);
            for (int i = 0; i < CALLS; i++) {
                test.anyCall("object " + seed + ", call " + i);
            }
        }
        Check.end();
    }

    private int any() {
        return random.nextInt(3) == 0 ? EDGES[random.nextInt(EDGES.length)] : random.nextInt(Math.max(4, x.count(0)));
    }

    private void anyCall(String what) {
        Class<?> bad = IllegalArgumentException.class;
        int pick = random.nextInt(20);
        if (pick < 9) {
            only(what + " make", Set.of(bad, IllegalStateException.class),
                    () -> x.make(random.nextInt(20) - 1, any(), any(), any()));
        } else if (pick < 12) {
            only(what + " procedure", Set.of(bad), () -> x.procedure(random.nextInt(5), any(), any(), any()));
        } else if (pick < 16) {
            only(what + " work", Set.of(bad, ArithmeticException.class, IndexOutOfBoundsException.class,
                    UnsupportedOperationException.class, NoSuchElementException.class, IllegalStateException.class),
                    () -> x.work(any()));
        } else if (pick == 16) {
            only(what + " bounds", Set.of(bad), () -> x.bounds(any(), any(), any(), any()));
        } else if (pick == 17) {
            only(what + " put", Set.of(bad), () -> x.put(any(), VALUES[random.nextInt(VALUES.length)]));
        } else if (pick == 18) {
            only(what + " variable", Set.of(bad), () -> x.variable(any()));
            only(what + " element", Set.of(IndexOutOfBoundsException.class), () -> x.element(any(), any()));
            only(what + " node", Set.of(bad, IndexOutOfBoundsException.class), () -> x.node(any(), any()));
            only(what + " count", Set.of(bad), () -> x.count(any()));
        } else if (random.nextInt(4) == 0) {
            only(what + " clear", Set.of(), () -> x.clear());
        }
    }

    private static void only(String what, Set<Class<?>> told, Check.Step step) {
        try {
            step.run();
        } catch (RuntimeException | StackOverflowError e) {
            if (!told.contains(e.getClass())) {
                Check.tell(what + " threw " + e);
            }
        }
    }
}
