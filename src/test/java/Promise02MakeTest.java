/** Promise 2: make. */
final class Promise02MakeTest {
    public static void main(String[] args) {
        numbersInOrder();
        kinds();
        smallNumbers();
        nodesThereAlready();
        callsParts();
        full();
        Check.end();
    }

    private static void numbersInOrder() {
        NameForge x = new NameForge();
        for (int i = 0; i < 48; i++) {
            Check.due("make the node " + i, i, () -> x.make(0, 8, 0, 0));
        }
        Check.due("count(0)", 48, () -> x.count(0));
    }

    private static void kinds() {
        NameForge x = new NameForge();
        x.make(0, 8, -1, -1);
        for (int kind = 0; kind <= 17; kind++) {
            int asked = kind;
            Check.due("make(" + kind + ", 0, 0, 0)", kind + 1, () -> x.make(asked, 0, 0, 0));
        }
        for (int kind : new int[] {-1, 18, Integer.MIN_VALUE, Integer.MAX_VALUE}) {
            Check.illegal("make(" + kind + ", 0, 0, 0)", () -> x.make(kind, 0, 0, 0));
        }
        Check.due("count(0) behind the refused ones", 19, () -> x.count(0));
    }

    private static void smallNumbers() {
        int[][] ends = {{1, 8}, {10, 2}, {11, 2}, {12, 4}, {16, 4}, {17, 4}};
        for (int[] row : ends) {
            NameForge x = new NameForge();
            x.make(0, 8, -1, -1);
            Check.due("make(" + row[0] + ") with its last a", 1, () -> x.make(row[0], row[1] - 1, 0, 0));
            Check.illegal("make(" + row[0] + ") with a too high", () -> x.make(row[0], row[1], 0, 0));
            Check.illegal("make(" + row[0] + ") with a below 0", () -> x.make(row[0], -1, 0, 0));
        }
        NameForge x = new NameForge();
        Check.due("a number of any size", 0, () -> x.make(0, Integer.MIN_VALUE, -5, 99));
        Check.due("a number of any size", 1, () -> x.make(0, Integer.MAX_VALUE, 99, -5));
        Check.due("its value", Integer.MIN_VALUE / 8.0, () -> x.work(0));
        Check.due("its value", Integer.MAX_VALUE / 8.0, () -> x.work(1));
    }

    private static void nodesThereAlready() {
        boolean[] aIsNode = new boolean[18];
        boolean[] bIsNode = new boolean[18];
        boolean[] cIsNode = new boolean[18];
        for (int kind : new int[] {2, 3, 4, 5, 6, 7, 8, 9, 13, 14, 15}) {
            aIsNode[kind] = true;
            bIsNode[kind] = true;
        }
        bIsNode[17] = true;
        cIsNode[9] = true;
        for (int kind = 0; kind <= 17; kind++) {
            if (kind != 12) {
                part("a", kind, aIsNode[kind], new int[][] {{3, 0, 0}, {-1, 0, 0}});
                part("b", kind, bIsNode[kind], new int[][] {{0, 3, 0}, {0, -1, 0}, {1, Integer.MAX_VALUE, 0}});
                part("c", kind, cIsNode[kind], new int[][] {{0, 0, 3}, {0, 0, -1}, {1, 0, Integer.MIN_VALUE}});
            }
        }
    }

    private static void part(String name, int kind, boolean isNode, int[][] parts) {
        for (int[] p : parts) {
            NameForge x = new NameForge();
            for (int i = 0; i < 3; i++) {
                x.make(0, 8, -1, -1);
            }
            String what = "make(" + kind + ") with " + name + " that is no node";
            if (isNode) {
                Check.illegal(what, () -> x.make(kind, p[0], p[1], p[2]));
            } else if (!name.equals("a")) {
                Check.due(what, 3, () -> x.make(kind, p[0], p[1], p[2]));
            }
        }
    }

    private static void callsParts() {
        NameForge x = new NameForge();
        Check.illegal("a call with b too high", () -> x.make(12, 0, 0, -1));
        Check.illegal("a call with c too high", () -> x.make(12, 0, -1, 0));
        Check.illegal("a call with b -2", () -> x.make(12, 0, -2, -1));
        Check.illegal("a call with c -2", () -> x.make(12, 0, -1, -2));
        Check.due("a call without nodes", 0, () -> x.make(12, 3, -1, -1));
        Check.due("a call with both nodes", 1, () -> x.make(12, 3, 0, 0));
        Check.due("a call with the second alone", 2, () -> x.make(12, 3, -1, 1));
    }

    private static void full() {
        NameForge x = new NameForge();
        for (int i = 0; i < 47; i++) {
            x.make(0, 8, -1, -1);
        }
        Check.illegal("a wrong one with 47", () -> x.make(1, 8, -1, -1));
        Check.due("the 48th", 47, () -> x.make(3, 46, 46, -1));
        Check.refused("the 49th", IllegalStateException.class, () -> x.make(3, 47, 47, -1));
        Check.illegal("a wrong one with 48", () -> x.make(1, 8, -1, -1));
        Check.due("count(0)", 48, () -> x.count(0));
        Check.due("the 48th is as it was", 2, () -> x.work(47));
        x.clear();
        Check.due("the first behind a clear", 0, () -> x.make(0, 8, -1, -1));
    }
}
