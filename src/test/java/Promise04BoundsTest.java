/** Promise 4: bounds. */
final class Promise04BoundsTest {
    public static void main(String[] args) {
        howMany();
        allElementsThereAndApart();
        elementsBecomeZero();
        refusals();
        Check.end();
    }

    private static void howMany() {
        int[][] rows = {
            {1, 1, 1, 1, 1}, {0, 4, 0, 4, 25}, {-9, -5, 5, 9, 25}, {9, 9, -9, -9, 1}, {-1, 1, 2, 3, 6}, {2, 3, -1, 1, 6}
        };
        NameForge x = new NameForge();
        for (int[] r : rows) {
            Check.due("bounds(" + r[0] + ", " + r[1] + ", " + r[2] + ", " + r[3] + ")", r[4],
                    () -> x.bounds(r[0], r[1], r[2], r[3]));
            Check.due("count(1)", r[4], () -> x.count(1));
        }
    }

    private static void allElementsThereAndApart() {
        Forge f = new Forge();
        f.x.bounds(-2, 2, 5, 9);
        int set = f.set(f.elem(f.var(0), f.var(1)), f.var(4));
        for (int place = 0; place < 25; place++) {
            f.x.put(0, place / 5 - 2);
            f.x.put(1, place % 5 + 5);
            f.x.put(4, place + 0.5);
            f.gives("set element " + place, place + 0.5, set);
        }
        for (int place = 0; place < 25; place++) {
            int row = place / 5 - 2;
            int column = place % 5 + 5;
            Check.due("element(" + row + ", " + column + ")", place + 0.5, () -> f.x.element(row, column));
        }
    }

    private static void elementsBecomeZero() {
        Forge f = new Forge();
        int one = f.num(1);
        int set = f.set(f.elem(one, one), one);
        f.gives("set element 1, 1", 1, set);
        Check.due("element(1, 1)", 1, () -> f.x.element(1, 1));
        f.x.bounds(1, 1, 1, 1);
        Check.due("element(1, 1) behind the same bounds", 0, () -> f.x.element(1, 1));
        f.x.work(set);
        f.x.bounds(0, 4, 0, 4);
        f.x.bounds(0, 1, 0, 1);
        for (int place = 0; place < 4; place++) {
            int row = place / 2;
            int column = place % 2;
            Check.due("element behind other bounds", 0, () -> f.x.element(row, column));
        }
    }

    private static void refusals() {
        Forge f = new Forge();
        int zero = f.num(0);
        f.x.bounds(0, 1, 0, 2);
        f.x.work(f.set(f.elem(zero, zero), f.num(3)));
        int[][] wrong = {
            {-10, -9, 0, 0}, {9, 10, 0, 0}, {0, 0, -10, -9}, {0, 0, 9, 10}, {1, 0, 0, 0}, {0, 0, 1, 0}, {0, 5, 0, 0},
            {0, 0, 0, 5}, {-9, 9, 0, 0}, {10, 10, 0, 0}, {0, 0, -10, -10},
            {Integer.MIN_VALUE, Integer.MAX_VALUE, 0, 0}, {0, 0, Integer.MIN_VALUE, Integer.MAX_VALUE},
            {Integer.MAX_VALUE, Integer.MIN_VALUE, 0, 0}, {0, 0, Integer.MAX_VALUE, Integer.MIN_VALUE}
        };
        for (int[] w : wrong) {
            String what = "bounds(" + w[0] + ", " + w[1] + ", " + w[2] + ", " + w[3] + ")";
            Check.illegal(what, () -> f.x.bounds(w[0], w[1], w[2], w[3]));
            Check.due("count(1) behind " + what, 6, () -> f.x.count(1));
            Check.due("element(0, 0) behind " + what, 3, () -> f.x.element(0, 0));
        }
    }
}
