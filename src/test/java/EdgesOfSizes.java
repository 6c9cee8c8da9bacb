/** The edges of "What it is" and of the first paragraph of the terms: how much there is of everything. */
final class EdgesOfSizes {
    private static final String TERMS = "Terms";

    private EdgesOfSizes() {
    }

    static void run() {
        the512thCall();
        variablesAreIntegerOrReal();
        rowsAndColumns();
        elementsAreReal();
        fiveOfEach();
        tableAtFirst();
        doubles();
        zeroAtFirst();
        nodesAreNumbered();
        fortyEightNodes();
        partsAreMadeBefore();
        noBodyAtFirst();
        parametersOfAProcedure();
    }

    /** Every method as the 512th call, behind works that are as dear as can be; what comes behind it is free. */
    private static void the512thCall() {
        Doc.says("What it is", "An object is used for at most 512 calls after it has been made");
        Check.due("make as the 512th call", 2, () -> after511Calls().make(3, 1, 1, -1));
        Check.passes("procedure as the 512th call", () -> after511Calls().procedure(3, 1, 2, 3));
        Check.due("bounds as the 512th call", 25, () -> after511Calls().bounds(0, 4, 0, 4));
        Check.due("put as the 512th call", 2.5, () -> after511Calls().put(4, 1));
        Check.due("work as the 512th call", 2.5, () -> after511Calls().work(0));
        Check.refused("a refused work as the 512th call", IllegalStateException.class, () -> after511Calls().work(1));
        Check.due("variable as the 512th call", 2.5, () -> after511Calls().variable(4));
        Check.due("element as the 512th call", 0, () -> after511Calls().element(1, 1));
        Check.due("node as the 512th call", 15, () -> after511Calls().node(1, 0));
        Check.due("clear as the 512th call", 2, () -> after511Calls().clear());
        Check.due("count as the 512th call", 300, () -> after511Calls().count(2));
    }

    private static NameForge after511Calls() {
        NameForge x = new NameForge();
        x.bounds(0, 1, 0, 1);
        x.put(4, 2.5);
        int variable = x.make(1, 4, -1, -1);
        int endless = x.make(15, variable, variable, -1);
        for (int call = 5; call <= 511; call++) {
            Check.refused("work as call " + call, IllegalStateException.class, () -> x.work(endless));
        }
        return x;
    }

    private static void variablesAreIntegerOrReal() {
        Doc.says(TERMS, "VARIABLES 0 to 3 are INTEGER, 4 to 7 REAL;");
        Forge f = new Forge();
        for (int i = 0; i < 8; i++) {
            f.x.put(i, 2.5);
            f.holds("behind put of 2.5", i, i < 4 ? 3 : 2.5);
            f.x.work(f.set(f.var(i), f.num(-2.5)));
            f.holds("behind SET to -2.5", i, i < 4 ? -2 : -2.5);
        }
    }

    private static void rowsAndColumns() {
        Doc.says(TERMS, "has ROWS low to high and COLUMNS low2 to high2,");
        int[][] tables = {{-9, -5, 5, 9}, {5, 9, -9, -5}, {2, 3, -1, 1}, {0, 0, 7, 7}};
        for (int[] t : tables) {
            Forge f = new Forge();
            f.x.bounds(t[0], t[1], t[2], t[3]);
            int element = f.elem(f.var(0), f.var(1));
            for (int row = t[0] - 1; row <= t[1] + 1; row++) {
                for (int column = t[2] - 1; column <= t[3] + 1; column++) {
                    boolean isThere = row >= t[0] && row <= t[1] && column >= t[2] && column <= t[3];
                    oneElement(f, row, column, element, isThere);
                }
            }
        }
    }

    private static void oneElement(Forge f, int row, int column, int element, boolean isThere) {
        String what = "element " + row + ", " + column;
        f.x.put(0, row);
        f.x.put(1, column);
        if (isThere) {
            f.gives(what, 0, element);
            Check.due(what, 0, () -> f.x.element(row, column));
        } else {
            f.faults(what, 3, element);
            Check.refused(what, IndexOutOfBoundsException.class, () -> f.x.element(row, column));
        }
    }

    private static void elementsAreReal() {
        Doc.says(TERMS, "a TABLE of ELEMENTS (REAL)");
        Forge f = new Forge();
        int one = f.num(1);
        for (double v : new double[] {2.5, -2.5, 0.125, -0.125}) {
            f.gives("SET of an element", v, f.set(f.elem(one, one), f.num(v)));
            Check.due("element(1, 1) behind SET to " + v, v, () -> f.x.element(1, 1));
            f.gives("ELEMENT behind SET to " + v, v, f.elem(one, one));
        }
    }

    private static void fiveOfEach() {
        Doc.says(TERMS, "at most 5 of each,");
        NameForge x = new NameForge();
        Check.due("5 rows", 5, () -> x.bounds(-2, 2, 1, 1));
        Check.due("5 columns", 5, () -> x.bounds(1, 1, -2, 2));
        Check.due("5 of each", 25, () -> x.bounds(5, 9, -9, -5));
        Check.illegal("6 rows", () -> x.bounds(-2, 3, 1, 1));
        Check.illegal("6 columns", () -> x.bounds(1, 1, -2, 3));
        Check.illegal("6 rows of 5", () -> x.bounds(4, 9, -9, -5));
        Check.illegal("5 rows of 6", () -> x.bounds(5, 9, -9, -4));
    }

    private static void tableAtFirst() {
        Doc.says(TERMS, "at first 1 to 1 both.");
        NameForge x = new NameForge();
        Check.due("element(1, 1)", 0, () -> x.element(1, 1));
        int[][] beside = {{0, 1}, {2, 1}, {1, 0}, {1, 2}, {0, 0}, {2, 2}};
        for (int[] b : beside) {
            Check.refused("element(" + b[0] + ", " + b[1] + ")", IndexOutOfBoundsException.class,
                    () -> x.element(b[0], b[1]));
        }
        Check.due("count(1)", 1, () -> x.count(1));
    }

    private static void doubles() {
        Doc.says(TERMS, "All are doubles,");
        Forge f = new Forge();
        int v = f.var(7);
        int one = f.num(1);
        int set = f.set(f.elem(one, one), v);
        for (double d : new double[] {1.0 / 3, 1e9 - 1.0 / 1024, Math.nextDown(1e9), Double.MIN_VALUE, -1e-300}) {
            f.x.put(7, d);
            f.holds("to the last bit", 7, d);
            f.gives("to the last bit", d, set);
            Check.due("an element to the last bit", d, () -> f.x.element(1, 1));
        }
        f.x.put(3, 999999999);
        f.holds("an integer one to its last digit", 3, 999999999);
    }

    private static void zeroAtFirst() {
        Doc.says(TERMS, "0 at first.");
        Forge f = new Forge();
        for (int i = 0; i < 8; i++) {
            f.holds("at first", i, 0);
            f.gives("variable " + i + " at first", 0, f.var(i));
        }
        Check.due("element(1, 1) at first", 0, () -> f.x.element(1, 1));
    }

    private static void nodesAreNumbered() {
        Doc.says(TERMS, "NODES are numbered 0, 1, .. as they are made,");
        NameForge x = new NameForge();
        Check.due("the first node", 0, () -> x.make(0, 8, -1, -1));
        Check.illegal("a refused one", () -> x.make(1, 8, -1, -1));
        Check.due("the next takes no number from a refused one", 1, () -> x.make(0, 8, -1, -1));
        Check.due("the next", 2, () -> x.make(3, 0, 1, -1));
        x.clear();
        Check.due("the first behind clear", 0, () -> x.make(0, 8, -1, -1));
    }

    private static void fortyEightNodes() {
        Doc.says(TERMS, "at most 48;");
        NameForge x = new NameForge();
        x.make(0, 8, -1, -1);
        for (int i = 1; i < 48; i++) {
            int last = i - 1;
            Check.due("node " + i, i, () -> x.make(14, last, last, -1));
        }
        for (int kind = 0; kind <= 17; kind++) {
            int k = kind;
            Check.refused("a 49th node of kind " + k, IllegalStateException.class, () -> x.make(k, 0, 0, 0));
        }
        Check.due("count(0)", 48, () -> x.count(0));
        Check.due("the 48th", 46, () -> x.node(47, 1));
        Check.refused("the 49th", IndexOutOfBoundsException.class, () -> x.node(48, 0));
    }

    /** Part 0, 1, 2 of each kind that is a node: the last one there passes, the node itself and -1 do not. */
    private static void partsAreMadeBefore() {
        Doc.says(TERMS, "their parts are NODES made before.");
        for (int kind = 0; kind <= 17; kind++) {
            for (int part : Forge.nodesAmongPartsOf(kind)) {
                onePart(kind, part, 2, true);
                onePart(kind, part, 0, true);
                onePart(kind, part, 3, false);
                onePart(kind, part, -1, false);
                onePart(kind, part, Integer.MIN_VALUE, false);
                onePart(kind, part, Integer.MAX_VALUE, false);
            }
        }
    }

    private static void onePart(int kind, int part, int n, boolean isThere) {
        NameForge x = new NameForge();
        for (int i = 0; i < 3; i++) {
            x.make(0, 8, -1, -1);
        }
        int[] p = {1, 1, 1};
        p[part] = n;
        String what = "make(" + kind + ", " + p[0] + ", " + p[1] + ", " + p[2] + ") with three nodes";
        if (isThere) {
            Check.due(what, 3, () -> x.make(kind, p[0], p[1], p[2]));
        } else {
            Check.illegal(what, () -> x.make(kind, p[0], p[1], p[2]));
        }
    }

    private static void noBodyAtFirst() {
        Doc.says(TERMS, "PROCEDURES 0 to 3 have a BODY (a NODE, -1 at first: none),");
        Forge f = new Forge();
        int nine = f.num(9);
        for (int p = 0; p < 4; p++) {
            int procedure = p;
            int call = f.call(p);
            f.faults("procedure " + p + " at first", 4, call);
            Check.illegal("a body that is none", () -> f.x.procedure(procedure, -1, 0, 0));
            f.x.procedure(p, nine, 0, 0);
            f.gives("procedure " + p + " with a body", 9, call);
        }
        Check.illegal("procedure -1", () -> f.x.procedure(-1, nine, 0, 0));
        Check.illegal("procedure 4", () -> f.x.procedure(4, nine, 0, 0));
    }

    /** The body raises variable 4, which was given for both: a parameter by name sees it, one by value does not. */
    private static void parametersOfAProcedure() {
        Doc.says(TERMS, "0 to 2 PARAMETERS, each by VALUE or by NAME.");
        for (int n = 0; n <= 2; n++) {
            for (int names = 0; names <= 3; names++) {
                for (int a = 0; a <= 1; a++) {
                    String what = "parameter " + a + " of " + n + ", names " + names;
                    Forge f = new Forge();
                    int v = f.var(4);
                    f.x.procedure(1, f.then(f.set(v, f.num(1)), f.par(a)), n, names);
                    int call = f.call(1, v, v);
                    if (a < n) {
                        f.gives(what, names >> a & 1, call);
                    } else {
                        f.faults(what, 4, call);
                    }
                }
            }
        }
    }
}
