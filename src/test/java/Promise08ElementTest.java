/** Promise 8: element. */
final class Promise08ElementTest {
    public static void main(String[] args) {
        Forge f = new Forge();
        f.x.bounds(-1, 1, 2, 6);
        f.x.work(f.set(f.elem(f.num(1), f.num(6)), f.num(1.625)));
        f.x.work(f.set(f.elem(f.num(-1), f.num(2)), f.num(-7)));
        Check.due("element(1, 6)", 1.625, () -> f.x.element(1, 6));
        Check.due("element(-1, 2)", -7, () -> f.x.element(-1, 2));
        Check.due("element(0, 4)", 0, () -> f.x.element(0, 4));
        int[][] wrong = {
            {-2, 2}, {2, 2}, {0, 1}, {0, 7}, {2, 7}, {Integer.MIN_VALUE, 2}, {Integer.MAX_VALUE, 2},
            {0, Integer.MIN_VALUE}, {0, Integer.MAX_VALUE}
        };
        for (int[] w : wrong) {
            Check.refused("element(" + w[0] + ", " + w[1] + ")", IndexOutOfBoundsException.class,
                    () -> f.x.element(w[0], w[1]));
        }
        Check.end();
    }
}
