/** Promise 7: variable. */
final class Promise07VariableTest {
    public static void main(String[] args) {
        Forge f = new Forge();
        for (int i = 0; i < 8; i++) {
            f.x.put(i, i + 10);
            f.holds("behind put", i, i + 10);
        }
        f.x.work(f.set(f.var(3), f.num(1.75)));
        f.x.work(f.set(f.var(4), f.num(1.75)));
        f.holds("an integer one that was set", 3, 2);
        f.holds("a real one that was set", 4, 1.75);
        f.holds("its neighbour", 2, 12);
        f.holds("its neighbour", 5, 15);
        for (int i : new int[] {-1, 8, Integer.MIN_VALUE, Integer.MAX_VALUE}) {
            Check.illegal("variable(" + i + ")", () -> f.x.variable(i));
        }
        Check.end();
    }
}
