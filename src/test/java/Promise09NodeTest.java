/** Promise 9: node. */
final class Promise09NodeTest {
    public static void main(String[] args) {
        partsOfEachKind();
        callsParts();
        refusals();
        Check.end();
    }

    /** The parts that are looked at come back, those that are not are -1. */
    private static void partsOfEachKind() {
        int[] seen = {1, 1, 2, 2, 2, 2, 2, 2, 2, 3, 1, 1, 3, 2, 2, 2, 1, 2};
        for (int kind = 0; kind <= 17; kind++) {
            NameForge x = new NameForge();
            for (int i = 0; i < 4; i++) {
                x.make(0, i, -1, -1);
            }
            x.make(kind, 1, 2, 3);
            int[] due = {kind, 1, seen[kind] >= 2 ? 2 : -1, seen[kind] == 3 ? 3 : -1};
            for (int what = 0; what < 4; what++) {
                int asked = what;
                Check.due("node(" + what + ") of kind " + kind, due[what], () -> x.node(4, asked));
            }
        }
    }

    private static void callsParts() {
        NameForge x = new NameForge();
        x.make(0, -12345, 7, 8);
        x.make(12, 3, -1, 0);
        Check.due("a of a number", -12345, () -> x.node(0, 1));
        Check.due("b of a call without", -1, () -> x.node(1, 2));
        Check.due("c of a call", 0, () -> x.node(1, 3));
    }

    private static void refusals() {
        NameForge x = new NameForge();
        x.make(0, 1, -1, -1);
        for (int n : new int[] {-1, 1, 48, Integer.MIN_VALUE, Integer.MAX_VALUE}) {
            Check.refused("node(" + n + ", 0)", IndexOutOfBoundsException.class, () -> x.node(n, 0));
            Check.illegal("node(" + n + ", 4)", () -> x.node(n, 4));
        }
        for (int what : new int[] {-1, 4, Integer.MIN_VALUE, Integer.MAX_VALUE}) {
            Check.illegal("node(0, " + what + ")", () -> x.node(0, what));
        }
    }
}
