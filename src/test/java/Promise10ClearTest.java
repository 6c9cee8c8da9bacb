/** Promise 10: clear. */
final class Promise10ClearTest {
    public static void main(String[] args) {
        Forge f = new Forge();
        f.x.bounds(0, 1, 0, 2);
        int one = f.num(1);
        int set = f.set(f.elem(one, one), f.set(f.var(5), f.num(2.5)));
        for (int p = 0; p < 4; p++) {
            f.x.procedure(p, set, 0, 0);
        }
        f.gives("a call", 2.5, f.call(2));
        int nodes = f.x.count(0);
        int worked = f.x.count(2);

        Check.due("clear()", nodes, () -> f.x.clear());
        f.counts("behind clear", 0, 0);
        Check.illegal("work(0) behind clear", () -> f.x.work(0));
        Check.refused("node(0, 0) behind clear", IndexOutOfBoundsException.class, () -> f.x.node(0, 0));
        Check.illegal("a part that is gone", () -> f.x.make(3, 0, 0, -1));
        Check.illegal("a body that is gone", () -> f.x.procedure(0, 0, 0, 0));
        Check.due("clear() again", 0, () -> f.x.clear());

        f.holds("what was set stays", 5, 2.5);
        Check.due("element(1, 1) stays", 2.5, () -> f.x.element(1, 1));
        f.counts("the table stays", 1, 6);
        f.counts("the latest work stays", 2, worked);
        f.counts("the latest work stays", 4, 1);

        Check.due("the next node", 0, () -> f.x.make(0, 24, -1, -1));
        for (int p = 0; p < 4; p++) {
            f.faults("a call of procedure " + p + " without a body", 4, f.call(p));
        }
        f.x.procedure(1, 0, 0, 0);
        f.gives("a call of a body that is new", 3, f.call(1));
        Check.end();
    }
}
