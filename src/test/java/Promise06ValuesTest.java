/** Promise 6: the values of kinds 0 to 9, 14 and 15, in the outermost environment. */
final class Promise06ValuesTest {
    public static void main(String[] args) {
        numbersAndVariables();
        elements();
        arithmetic();
        divides();
        less();
        order();
        choices();
        sequencesAndLoops();
        tooLarge();
        noSuchNode();
        Check.end();
    }

    private static void numbersAndVariables() {
        Forge f = new Forge();
        f.gives("number 5", 0.625, f.x.make(0, 5, -1, -1));
        f.gives("number -1", -0.125, f.x.make(0, -1, -1, -1));
        f.x.put(0, 3);
        f.x.put(7, -1.5);
        f.gives("variable 0", 3, f.var(0));
        f.gives("variable 7", -1.5, f.var(7));
    }

    private static void elements() {
        Forge f = new Forge();
        f.x.bounds(-2, 2, 5, 6);
        int row = f.var(4);
        int column = f.var(5);
        int element = f.elem(row, column);
        int set = f.set(element, f.num(9));
        f.x.put(4, -2);
        f.x.put(5, 6);
        f.gives("set at the corner", 9, set);
        double[][] there = {{-2, 6, 9}, {-2.5, 6.375, 9}, {-1.625, 5.5, 9}, {-1.5, 6, 0}, {2.25, 4.5, 0}};
        for (double[] t : there) {
            f.x.put(4, t[0]);
            f.x.put(5, t[1]);
            f.gives("element at " + t[0] + ", " + t[1], t[2], element);
        }
        double[][] gone = {{-2.625, 6}, {2.5, 6}, {0, 4.375}, {0, 6.5}, {1e9, 6}, {0, -1e9}};
        for (double[] g : gone) {
            f.x.put(4, g[0]);
            f.x.put(5, g[1]);
            f.faults("element at " + g[0] + ", " + g[1], 3, element);
            f.faults("set of the element at " + g[0] + ", " + g[1], 3, set);
        }
        f.x.put(4, -9);
        f.faults("the column is worked out though there is no such row", 1, f.elem(row, f.over(row, f.num(0))));
    }

    private static void arithmetic() {
        Forge f = new Forge();
        int a = f.num(7.5);
        int b = f.num(-2);
        f.gives("7.5 + -2", 5.5, f.add(a, b));
        f.gives("7.5 - -2", 9.5, f.sub(a, b));
        f.gives("7.5 * -2", -15, f.mul(a, b));
        f.gives("7.5 / -2", -3.75, f.over(a, b));
        f.gives("1 / 3 in doubles", 1.0 / 3.0, f.over(f.num(1), f.num(3)));
        f.gives("0 / -2", 0, f.over(f.num(0), b));
        f.faults("7.5 / 0", 1, f.over(a, f.num(0)));
        f.faults("0 / 0", 1, f.over(f.num(0), f.num(0)));
        f.gives("7.5 / 0.125", 60, f.over(a, f.num(0.125)));
    }

    private static void divides() {
        double[][] rows = {
            {7, 2, 3}, {-7, 2, -3}, {7, -2, -3}, {-7, -2, 3}, {6.5, 2, 3}, {6.375, 3.5, 1}, {-2.5, 1.5, -1},
            {1, 0.5, 1}, {5, -0.625, -5}, {0.25, 9, 0}
        };
        Forge f = new Forge();
        int quotient = f.div(f.var(4), f.var(5));
        for (double[] r : rows) {
            f.x.put(4, r[0]);
            f.x.put(5, r[1]);
            f.gives(r[0] + " div " + r[1], r[2], quotient);
        }
        for (double by : new double[] {0, 0.375, -0.5, -0.25}) {
            f.x.put(5, by);
            f.faults("div by " + by, 1, quotient);
        }
        f.x.put(4, -1e9);
        f.x.put(5, -1);
        f.gives("the largest quotient", 1e9, quotient);
    }

    private static void less() {
        Forge f = new Forge();
        int a = f.num(1);
        int b = f.num(1.125);
        f.gives("1 < 1.125", 1, f.less(a, b));
        f.gives("1.125 < 1", 0, f.less(b, a));
        f.gives("1 < 1", 0, f.less(a, a));
        f.gives("-1 < 0", 1, f.less(f.num(-1), f.num(0)));
    }

    /** The digits of variable 4 tell which part was worked out first. */
    private static void order() {
        for (int kind = 2; kind <= 8; kind++) {
            Forge f = new Forge();
            int first = f.then(f.mark(4, 1), f.num(1));
            int n = f.x.make(kind, first, f.then(f.mark(4, 2), f.num(1)), -1);
            Check.passes("the order of kind " + kind, () -> f.x.work(n));
            f.holds("the order of kind " + kind, 4, 12);
        }
        for (int kind = 2; kind <= 8; kind++) {
            Forge f = new Forge();
            int bad = f.over(f.num(1), f.num(0));
            f.faults("the first part of kind " + kind + " fails", 1, f.x.make(kind, bad, f.mark(4, 2), -1));
            f.holds("the second part of kind " + kind + " is not worked out", 4, 0);
        }
    }

    private static void choices() {
        Forge f = new Forge();
        int test = f.var(4);
        int choice = f.iff(test, f.set(f.var(5), f.num(3)), f.set(f.var(6), f.num(4)));
        f.x.put(4, -0.125);
        f.gives("not 0", 3, choice);
        f.holds("the other branch", 6, 0);
        f.counts("the test and one branch", 2, 4);
        f.x.put(4, 0);
        f.x.put(5, 0);
        f.gives("0", 4, choice);
        f.holds("the other branch", 5, 0);
        int bad = f.over(f.num(1), f.num(0));
        f.x.put(6, 0);
        f.faults("a test that fails", 1, f.iff(bad, choice, choice));
        f.counts("no branch behind it", 2, 4);
    }

    private static void sequencesAndLoops() {
        Forge f = new Forge();
        f.gives("the value of the second", 2, f.then(f.num(1), f.num(2)));
        f.x.work(f.then(f.mark(4, 1), f.mark(4, 2)));
        f.holds("the first, then the second", 4, 12);
        int i = f.var(0);
        int loop = f.loop(f.less(i, f.num(5)), f.set(i, f.add(i, f.num(1))));
        f.gives("a loop", 0, loop);
        f.holds("a loop", 0, 5);
        f.counts("a loop's nodes: itself, six tests, five turns", 2, 1 + 6 * 3 + 5 * 4);
        f.gives("a loop without a turn", 0, loop);
        f.counts("a loop without a turn", 2, 4);
        int bad = f.over(i, f.num(0));
        f.faults("a loop whose test fails", 1, f.loop(bad, i));
        f.counts("no turn behind it", 2, 4);
        f.faults("a loop whose turn fails", 1, f.loop(i, bad));
        f.counts("no test behind it", 2, 5);
        f.x.put(4, 0);
        f.faults("a sequence whose first fails", 1, f.then(bad, f.set(f.var(4), i)));
        f.holds("no second behind it", 4, 0);
    }

    private static void tooLarge() {
        Forge f = new Forge();
        int a = f.var(4);
        int b = f.var(5);
        int[] kinds = {f.add(a, b), f.sub(a, b), f.mul(a, b), f.over(a, b)};
        double[][] within = {{999999999, 1}, {-1, 999999999}, {-31250, 32000}, {125000000, 0.125}};
        double[][] beyond = {{999999999, 1.125}, {-1.125, 999999999}, {-31250.125, 32000}, {125000001, -0.125}};
        double[] due = {1e9, -1e9, -1e9, 1e9};
        for (int k = 0; k < 4; k++) {
            f.x.put(4, within[k][0]);
            f.x.put(5, within[k][1]);
            f.gives("just 1e9 in size, kind " + (k + 3), due[k], kinds[k]);
            f.x.put(4, beyond[k][0]);
            f.x.put(5, beyond[k][1]);
            f.faults("beyond 1e9 in size, kind " + (k + 3), 2, kinds[k]);
        }
        f.x.put(5, Double.MIN_VALUE);
        f.faults("over the least double", 2, kinds[3]);
    }

    private static void noSuchNode() {
        Forge f = new Forge();
        f.num(1);
        for (int n : new int[] {-1, 1, 48, Integer.MIN_VALUE, Integer.MAX_VALUE}) {
            Check.illegal("work(" + n + ")", () -> f.x.work(n));
        }
    }
}
