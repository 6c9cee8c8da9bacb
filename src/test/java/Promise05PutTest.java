/** Promise 5: put. */
final class Promise05PutTest {
    public static void main(String[] args) {
        whatItWas();
        integersAreRounded();
        edges();
        refusals();
        Check.end();
    }

    private static void whatItWas() {
        NameForge x = new NameForge();
        for (int i = 0; i < 8; i++) {
            int at = i;
            Check.due("the first put(" + i + ")", 0, () -> x.put(at, at + 1));
            Check.due("the second put(" + i + ")", i + 1, () -> x.put(at, -at));
        }
        for (int i = 0; i < 8; i++) {
            int at = i;
            Check.due("variable(" + i + ")", -i, () -> x.variable(at));
        }
    }

    private static void integersAreRounded() {
        double[][] rows = {
            {2.5, 3}, {-2.5, -2}, {-2.625, -3}, {2.4375, 2}, {0.5, 1}, {-0.5, 0}, {-0.5625, -1}, {-1, -1},
            {999999999.5, 1e9}, {-999999999.5, -999999999}, {-999999999.75, -1e9}
        };
        NameForge x = new NameForge();
        for (double[] r : rows) {
            for (int i = 0; i < 8; i++) {
                int at = i;
                x.put(i, r[0]);
                Check.due("variable " + i + " behind put of " + r[0], i < 4 ? r[1] : r[0], () -> x.variable(at));
            }
        }
    }

    private static void edges() {
        NameForge x = new NameForge();
        for (int i = 0; i < 8; i += 7) {
            int at = i;
            Check.due("put(" + i + ", 1e9)", 0, () -> x.put(at, 1e9));
            Check.due("put(" + i + ", -1e9)", 1e9, () -> x.put(at, -1e9));
            Check.due("put(" + i + ", 0)", -1e9, () -> x.put(at, 0));
        }
    }

    private static void refusals() {
        NameForge x = new NameForge();
        for (int i : new int[] {-1, 8, Integer.MIN_VALUE, Integer.MAX_VALUE}) {
            Check.illegal("put(" + i + ", 0)", () -> x.put(i, 0));
        }
        double[] wrong = {
            Double.NaN, Double.POSITIVE_INFINITY, Double.NEGATIVE_INFINITY, Math.nextUp(1e9), -Math.nextUp(1e9), 1e300
        };
        for (int i = 0; i < 8; i++) {
            int at = i;
            x.put(i, 3);
            for (double v : wrong) {
                Check.illegal("put(" + i + ", " + v + ")", () -> x.put(at, v));
                Check.due("variable(" + i + ") behind it", 3, () -> x.variable(at));
            }
        }
    }
}
