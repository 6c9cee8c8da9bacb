/** Promise 1: a new object has no nodes, and all else is as it is at first. */
final class Promise01NewObjectTest {
    public static void main(String[] args) {
        NameForge x = new NameForge();
        for (int what = 0; what <= 6; what++) {
            int asked = what;
            Check.due("count(" + what + ")", what == 1 ? 1 : 0, () -> x.count(asked));
        }
        for (int i = 0; i < 8; i++) {
            int asked = i;
            Check.due("variable(" + i + ")", 0, () -> x.variable(asked));
        }
        Check.due("element(1, 1)", 0, () -> x.element(1, 1));
        Check.refused("element(0, 1)", IndexOutOfBoundsException.class, () -> x.element(0, 1));
        Check.refused("element(1, 2)", IndexOutOfBoundsException.class, () -> x.element(1, 2));
        Check.refused("node(0, 0)", IndexOutOfBoundsException.class, () -> x.node(0, 0));
        Check.illegal("work(0)", () -> x.work(0));
        Check.due("clear()", 0, () -> x.clear());
        proceduresHaveNoBody();
        objectsShareNothing();
        Check.end();
    }

    private static void proceduresHaveNoBody() {
        Forge f = new Forge();
        for (int p = 0; p < 4; p++) {
            f.faults("a call of procedure " + p, 4, f.call(p));
        }
    }

    private static void objectsShareNothing() {
        Forge one = new Forge();
        Forge other = new Forge();
        one.num(1);
        one.x.procedure(0, 0, 0, 0);
        one.x.put(0, 5);
        one.x.bounds(0, 1, 0, 1);
        one.x.work(0);
        other.counts("the other one", 0, 0);
        other.counts("the other one", 1, 1);
        other.counts("the other one", 2, 0);
        other.holds("the other one", 0, 0);
        other.faults("a call in the other one", 4, other.call(0));
    }
}
