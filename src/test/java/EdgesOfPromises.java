/** The edges of promises 1 to 5: the calls that make and change, what they refuse and what a refusal leaves. */
final class EdgesOfPromises {
    private static final int[] FAR = {
        Integer.MIN_VALUE, Integer.MIN_VALUE + 1, Integer.MAX_VALUE - 1, Integer.MAX_VALUE
    };

    private EdgesOfPromises() {
    }

    static void run() {
        newObject();
        makeNumber();
        makeKinds();
        makeParts();
        makeNodesThere();
        makeCallsNodes();
        makeWith48();
        procedureHasThis();
        procedureNames();
        procedureRefuses();
        boundsHowMany();
        boundsMinus9To9();
        boundsLowAboveHigh();
        boundsMoreThan5();
        boundsRefusedChangeNothing();
        putWhatItWas();
        putRefusesVariable();
        putRefusesValue();
    }

    private static void newObject() {
        Doc.says("Promise 1", "No NODES.");
        NameForge x = new NameForge();
        Check.due("count(0) of a new object", 0, () -> x.count(0));
        Check.illegal("work(0) of a new object", () -> x.work(0));
        Check.refused("node(0, 0) of a new object", IndexOutOfBoundsException.class, () -> x.node(0, 0));
        Check.illegal("a node with a part that is not there", () -> x.make(17, 0, 0, -1));
        Check.illegal("a body that is not there", () -> x.procedure(0, 0, 0, 0));
        Check.due("clear() of a new object", 0, () -> x.clear());
        Check.due("the first node", 0, () -> x.make(0, 8, -1, -1));
        Check.due("work(0) with one", 1, () -> x.work(0));
    }

    private static void makeNumber() {
        Doc.says("Promise 2", "A NODE: its number.");
        NameForge x = new NameForge();
        for (int i = 0; i < 48; i++) {
            int due = i;
            Check.due("make, number " + i, due, () -> x.make(0, 8 * due, -1, -1));
            Check.due("node " + i + " is this one", due, () -> x.work(due));
        }
    }

    private static void makeKinds() {
        Doc.says("Promise 2", "IllegalArgumentException if kind is not 0 to 17,");
        NameForge x = new NameForge();
        x.make(0, 8, -1, -1);
        for (int kind : new int[] {0, 1, 16, 17}) {
            Check.passes("kind " + kind, () -> x.make(kind, 0, 0, 0));
        }
        for (int kind : new int[] {-1, 18, -2, 19}) {
            Check.illegal("kind " + kind, () -> x.make(kind, 0, 0, 0));
        }
        for (int kind : FAR) {
            Check.illegal("kind " + kind, () -> x.make(kind, 0, 0, 0));
        }
        Check.due("refused ones make no node", 5, () -> x.count(0));
    }

    private static void makeParts() {
        Doc.says("Promise 2", "or a part not as said: a VARIABLE 0 to 7; PARAMETER, LOCAL 0, 1;"
                + " PROCEDURE, LABEL 0 to 3; NUMBER any;");
        int[][] last = {{1, 7}, {10, 1}, {11, 1}, {12, 3}, {16, 3}, {17, 3}};
        for (int[] row : last) {
            NameForge x = new NameForge();
            x.make(0, 8, -1, -1);
            String what = "a of kind " + row[0];
            Check.due(what + " 0", 1, () -> x.make(row[0], 0, 0, 0));
            Check.due(what + " " + row[1], 2, () -> x.make(row[0], row[1], 0, 0));
            Check.illegal(what + " " + (row[1] + 1), () -> x.make(row[0], row[1] + 1, 0, 0));
            Check.illegal(what + " -1", () -> x.make(row[0], -1, 0, 0));
            for (int far : FAR) {
                Check.illegal(what + " " + far, () -> x.make(row[0], far, 0, 0));
            }
            Check.due("refused ones make no node", 3, () -> x.count(0));
        }
        NameForge x = new NameForge();
        for (int i = 0; i < FAR.length; i++) {
            int n = i;
            Check.due("a NUMBER " + FAR[i], n, () -> x.make(0, FAR[n], FAR[n], FAR[n]));
            Check.due("its value", FAR[i] / 8.0, () -> x.work(n));
        }
    }

    /** What a kind does not look at may be anything; what it looks at must be there. */
    private static void makeNodesThere() {
        Doc.says("Promise 2", "NODES there already");
        for (int kind = 0; kind <= 17; kind++) {
            for (int part = 1; part <= 2; part++) {
                boolean isNode = false;
                for (int p : Forge.nodesAmongPartsOf(kind)) {
                    isNode |= p == part;
                }
                for (int n : new int[] {2, -1, -2, Integer.MIN_VALUE, Integer.MAX_VALUE}) {
                    if (kind != 12) {
                        onePart(kind, part, n, !isNode);
                    }
                }
                onePart(kind, part, 1, true);
            }
        }
    }

    private static void onePart(int kind, int part, int n, boolean passes) {
        NameForge x = new NameForge();
        x.make(0, 8, -1, -1);
        x.make(0, 8, -1, -1);
        int b = part == 1 ? n : 0;
        int c = part == 2 ? n : 0;
        String what = "make(" + kind + ", 0, " + b + ", " + c + ") with two nodes";
        if (passes) {
            Check.due(what, 2, () -> x.make(kind, 0, b, c));
        } else {
            Check.illegal(what, () -> x.make(kind, 0, b, c));
            Check.due(what + " is refused", 2, () -> x.count(0));
        }
    }

    private static void makeCallsNodes() {
        Doc.says("Promise 2", "(of CALL b and c are looked at, if they are not -1: none).");
        int[] may = {-1, 0, 1};
        int[] mayNot = {-2, 2, Integer.MIN_VALUE, Integer.MAX_VALUE};
        for (int one : may) {
            for (int other : may) {
                NameForge x = withTwoNodes();
                Check.due("a call with " + one + ", " + other, 2, () -> x.make(12, 0, one, other));
            }
            for (int other : mayNot) {
                NameForge x = withTwoNodes();
                Check.illegal("a call with " + one + ", " + other, () -> x.make(12, 0, one, other));
                Check.illegal("a call with " + other + ", " + one, () -> x.make(12, 0, other, one));
                Check.due("refused ones make no node", 2, () -> x.count(0));
            }
        }
        NameForge x = new NameForge();
        Check.due("a call as the first node", 0, () -> x.make(12, 0, -1, -1));
    }

    private static NameForge withTwoNodes() {
        NameForge x = new NameForge();
        x.make(0, 8, -1, -1);
        x.make(0, 16, -1, -1);
        return x;
    }

    private static void makeWith48() {
        Doc.says("Promise 2", "IllegalStateException with 48.");
        NameForge x = new NameForge();
        for (int i = 0; i < 47; i++) {
            x.make(0, i, -1, -1);
        }
        Check.due("make with 47", 47, () -> x.make(0, 47, -1, -1));
        for (int tries = 0; tries < 3; tries++) {
            Check.refused("make with 48", IllegalStateException.class, () -> x.make(0, 99, -1, -1));
            Check.due("a refused one makes no node", 48, () -> x.count(0));
            Check.due("the last is as it was", 47, () -> x.node(47, 1));
            Check.due("the first is as it was", 0, () -> x.node(0, 1));
        }
        x.clear();
        Check.due("make behind clear", 0, () -> x.make(0, 99, -1, -1));
    }

    private static void procedureHasThis() {
        Doc.says("Promise 3", "PROCEDURE p has this BODY, and n PARAMETERS,");
        Forge f = new Forge();
        int one = f.num(1);
        int second = f.par(1);
        int bare = f.call(2);
        int full = f.call(2, one, one);
        f.x.procedure(2, one, 0, 0);
        f.gives("no parameters, none given", 1, bare);
        f.x.procedure(2, one, 1, 0);
        f.faults("one parameter, none given", 4, bare);
        f.x.procedure(2, second, 1, 0);
        f.faults("one parameter, the second taken", 4, full);
        f.x.procedure(2, second, 2, 0);
        f.gives("two parameters, the second taken", 1, full);
        f.x.procedure(2, f.num(9), 0, 0);
        f.gives("the latest counts", 9, bare);
        f.faults("the others have none", 4, f.call(1));
        f.faults("the others have none", 4, f.call(3));
    }

    private static void procedureNames() {
        Doc.says("Promise 3", "by NAME those whose BIT in names is 1.");
        for (int names = 0; names <= 3; names++) {
            for (int a = 0; a <= 1; a++) {
                Forge f = new Forge();
                int v = f.var(4);
                f.x.procedure(0, f.set(f.par(a), f.num(5)), 2, names);
                f.gives("SET of parameter " + a + ", names " + names, 5, f.call(0, v, v));
                f.holds("SET of parameter " + a + ", names " + names, 4, (names >> a & 1) * 5);
            }
        }
        Forge f = new Forge();
        int v = f.var(4);
        f.x.procedure(0, f.set(f.par(0), f.num(5)), 1, 2);
        f.gives("the bit of a parameter that is not there", 5, f.call(0, v));
        f.holds("the bit of a parameter that is not there", 4, 0);
    }

    private static void procedureRefuses() {
        Doc.says("Promise 3", "IllegalArgumentException if p, body (a NODE), n (0 to 2) or names (0 to 3)"
                + " is not as said.");
        int[] most = {3, 2, 2, 3};
        for (int place = 0; place < 4; place++) {
            procedureWith(place, 0, true);
            procedureWith(place, most[place], true);
            procedureWith(place, -1, false);
            procedureWith(place, most[place] + 1, false);
            for (int far : FAR) {
                procedureWith(place, far, false);
            }
        }
    }

    /** There are three nodes, the last of them a call that tells whether procedure 0 is as it was. */
    private static void procedureWith(int place, int number, boolean passes) {
        Forge f = new Forge();
        f.num(1);
        f.x.procedure(0, f.num(2), 0, 0);
        int call = f.call(0);
        int[] p = {0, 0, 0, 0};
        p[place] = number;
        String what = "procedure(" + p[0] + ", " + p[1] + ", " + p[2] + ", " + p[3] + ") with three nodes";
        if (passes) {
            Check.passes(what, () -> f.x.procedure(p[0], p[1], p[2], p[3]));
        } else {
            Check.illegal(what, () -> f.x.procedure(p[0], p[1], p[2], p[3]));
            f.gives("it is as it was behind " + what, 2, call);
        }
    }

    private static void boundsHowMany() {
        Doc.says("Promise 4", "The TABLE has these bounds from now on, all ELEMENTS 0: how many.");
        for (int rows = 1; rows <= 5; rows++) {
            for (int columns = 1; columns <= 5; columns++) {
                NameForge x = new NameForge();
                int high = rows - 3;
                int high2 = columns + 3;
                int due = rows * columns;
                Check.due(rows + " rows, " + columns + " columns", due, () -> x.bounds(-2, high, 4, high2));
                Check.due("count(1)", due, () -> x.count(1));
                Check.due("the last one", 0, () -> x.element(high, high2));
                Check.refused("a row more", IndexOutOfBoundsException.class, () -> x.element(high + 1, high2));
                Check.refused("a column more", IndexOutOfBoundsException.class, () -> x.element(high, high2 + 1));
            }
        }
        Forge f = new Forge();
        f.x.bounds(0, 4, 0, 4);
        int set = f.set(f.elem(f.var(0), f.var(1)), f.num(6));
        for (int place = 0; place < 25; place++) {
            f.x.put(0, place / 5);
            f.x.put(1, place % 5);
            f.x.work(set);
        }
        f.x.bounds(0, 4, 0, 4);
        for (int place = 0; place < 25; place++) {
            int row = place / 5;
            int column = place % 5;
            Check.due("element(" + row + ", " + column + ") behind the same bounds", 0, () -> f.x.element(row, column));
        }
        f.holds("variables stay", 0, 4);
        f.counts("nodes stay", 0, 5);
    }

    private static void boundsMinus9To9() {
        Doc.says("Promise 4", "IllegalArgumentException if one is not -9 to 9,");
        NameForge x = new NameForge();
        int[][] right = {{-9, -9, 0, 0}, {9, 9, 0, 0}, {0, 0, -9, -9}, {0, 0, 9, 9}, {-9, -5, 5, 9}, {5, 9, -9, -5}};
        for (int[] r : right) {
            Check.passes(told(r), () -> x.bounds(r[0], r[1], r[2], r[3]));
        }
        int[][] wrong = {{-10, -10, 0, 0}, {-10, -9, 0, 0}, {9, 10, 0, 0}, {10, 10, 0, 0}, {0, 0, -10, -10},
            {0, 0, -10, -9}, {0, 0, 9, 10}, {0, 0, 10, 10}};
        for (int[] w : wrong) {
            Check.illegal(told(w), () -> x.bounds(w[0], w[1], w[2], w[3]));
        }
        for (int far : FAR) {
            for (int place = 0; place < 4; place++) {
                int[] w = {0, 0, 0, 0};
                w[place] = far;
                Check.illegal(told(w), () -> x.bounds(w[0], w[1], w[2], w[3]));
            }
            Check.illegal("bounds all " + far, () -> x.bounds(far, far, far, far));
        }
    }

    private static String told(int[] b) {
        return "bounds(" + b[0] + ", " + b[1] + ", " + b[2] + ", " + b[3] + ")";
    }

    private static void boundsLowAboveHigh() {
        Doc.says("Promise 4", "or low > high,");
        NameForge x = new NameForge();
        Check.due("low = high", 1, () -> x.bounds(3, 3, -3, -3));
        Check.due("low < high", 4, () -> x.bounds(3, 4, -4, -3));
        int[][] wrong = {{4, 3, 0, 0}, {0, 0, 4, 3}, {9, -9, 0, 0}, {0, 0, 9, -9}, {1, 0, 1, 0},
            {Integer.MAX_VALUE, Integer.MIN_VALUE, 0, 0}, {0, 0, Integer.MAX_VALUE, Integer.MIN_VALUE}};
        for (int[] w : wrong) {
            Check.illegal(told(w), () -> x.bounds(w[0], w[1], w[2], w[3]));
        }
    }

    private static void boundsMoreThan5() {
        Doc.says("Promise 4", "or there are more than 5.");
        NameForge x = new NameForge();
        for (int low = -9; low <= 9; low++) {
            for (int high = low; high <= 9; high++) {
                int[] rows = {low, high, 0, 0};
                int[] columns = {0, 0, low, high};
                int many = high - low + 1;
                for (int[] b : new int[][] {rows, columns}) {
                    if (many <= 5) {
                        Check.due(told(b), many, () -> x.bounds(b[0], b[1], b[2], b[3]));
                    } else {
                        Check.illegal(told(b), () -> x.bounds(b[0], b[1], b[2], b[3]));
                    }
                }
            }
        }
        Check.due("5 and 5, though 25", 25, () -> x.bounds(-2, 2, -2, 2));
    }

    private static void boundsRefusedChangeNothing() {
        Forge f = new Forge();
        f.x.bounds(2, 3, 4, 5);
        f.x.work(f.set(f.elem(f.num(3), f.num(5)), f.num(8)));
        int[][] wrong = {{0, 5, 0, 0}, {0, 0, 0, 5}, {1, 0, 0, 0}, {0, 0, 1, 0}, {0, 0, 9, 10}, {-10, -9, 0, 0}};
        for (int[] w : wrong) {
            Check.illegal(told(w), () -> f.x.bounds(w[0], w[1], w[2], w[3]));
            Check.due("an element behind " + told(w), 8, () -> f.x.element(3, 5));
            Check.due("count(1) behind " + told(w), 4, () -> f.x.count(1));
            Check.refused("element(0, 0) behind " + told(w), IndexOutOfBoundsException.class, () -> f.x.element(0, 0));
        }
    }

    private static void putWhatItWas() {
        Doc.says("Promise 5", "VARIABLE i becomes v (an INTEGER one rounded): what it was.");
        NameForge x = new NameForge();
        for (int i = 0; i < 8; i++) {
            int at = i;
            Check.due("the first put of variable " + i, 0, () -> x.put(at, 7.5));
            Check.due("the second", i < 4 ? 8 : 7.5, () -> x.put(at, -7.5));
            Check.due("the third", i < 4 ? -7 : -7.5, () -> x.put(at, at));
        }
        for (int i = 0; i < 8; i++) {
            int at = i;
            Check.due("variable " + i + " alone", at, () -> x.variable(at));
        }
    }

    private static void putRefusesVariable() {
        Doc.says("Promise 5", "IllegalArgumentException if i is not 0 to 7,");
        NameForge x = new NameForge();
        Check.due("put(0, 1)", 0, () -> x.put(0, 1));
        Check.due("put(7, 1)", 0, () -> x.put(7, 1));
        Check.illegal("put(-1, 1)", () -> x.put(-1, 1));
        Check.illegal("put(8, 1)", () -> x.put(8, 1));
        for (int far : FAR) {
            Check.illegal("put(" + far + ", 1)", () -> x.put(far, 1));
        }
    }

    private static void putRefusesValue() {
        Doc.says("Promise 5", "or v no number, or beyond 1e9 in size.");
        double beyond = Math.nextUp(1e9);
        double[] right = {1e9, -1e9, Math.nextDown(1e9), -Math.nextDown(1e9), 0, -0.0};
        double[] wrong = {Double.NaN, beyond, -beyond, 1e9 + 1, -1e9 - 1, Double.MAX_VALUE, -Double.MAX_VALUE,
            Double.POSITIVE_INFINITY, Double.NEGATIVE_INFINITY};
        for (int i : new int[] {0, 3, 4, 7}) {
            NameForge x = new NameForge();
            for (double v : right) {
                Check.passes("put(" + i + ", " + v + ")", () -> x.put(i, v));
                Check.due("behind it", i < 4 ? Math.floor(v + 0.5) : v, () -> x.variable(i));
            }
            x.put(i, 5);
            for (double v : wrong) {
                Check.illegal("put(" + i + ", " + v + ")", () -> x.put(i, v));
                Check.due("nothing becomes of it", 5, () -> x.variable(i));
            }
        }
    }
}
