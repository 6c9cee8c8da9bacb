/** The edges of promises 6 to 11: work, the calls that only tell, clear and count. */
final class EdgesOfAnswers {
    private static final int[] FAR = {
        Integer.MIN_VALUE, Integer.MIN_VALUE + 1, Integer.MAX_VALUE - 1, Integer.MAX_VALUE
    };

    private EdgesOfAnswers() {
    }

    static void run() {
        workOutermost();
        workRefuses();
        workFaults();
        variable();
        variableRefuses();
        element();
        elementRefuses();
        node();
        nodeRefusesWhat();
        nodeRefusesNode();
        clear();
        countNodesAndElements();
        countOfTheLatestWork();
        countNodesWorkedOut();
        countFault();
        countCalls();
        countEnvironments();
        countJumps();
        countRefuses();
    }

    private static void workOutermost() {
        Doc.says("Promise 6", "NODE n is worked out in the outermost ENVIRONMENT: its value.");
        Forge f = new Forge();
        int p = f.par(0);
        int l = f.local(0);
        f.x.procedure(0, f.add(p, l), 1, 0);
        f.gives("a call", 5, f.call(0, f.num(5)));
        f.faults("a node of its body by itself, behind it", 4, p);
        f.faults("a node of its body by itself, behind it", 4, l);
        int first = f.num(2);
        f.gives("any node, not the last alone", 2, first);
    }

    private static void workRefuses() {
        Doc.says("Promise 6", "IllegalArgumentException if there is none such;");
        NameForge x = new NameForge();
        Check.illegal("work(0) without nodes", () -> x.work(0));
        for (int i = 0; i < 48; i++) {
            x.make(0, 8 * i, -1, -1);
            int last = i;
            Check.due("the last of " + (i + 1), last, () -> x.work(last));
            Check.illegal("the one behind it", () -> x.work(last + 1));
            Check.illegal("work(-1)", () -> x.work(-1));
        }
        for (int far : FAR) {
            Check.illegal("work(" + far + ")", () -> x.work(far));
        }
    }

    private static void workFaults() {
        Doc.says("Promise 6", "for FAULTS ArithmeticException (1, 2), IndexOutOfBoundsException (3), "
                + "UnsupportedOperationException (4, 6), NoSuchElementException (5), IllegalStateException (7, 8).");
        Class<?>[] due = {null, ArithmeticException.class, ArithmeticException.class, IndexOutOfBoundsException.class,
            UnsupportedOperationException.class, java.util.NoSuchElementException.class,
            UnsupportedOperationException.class, IllegalStateException.class, IllegalStateException.class};
        for (int fault = 1; fault <= 8; fault++) {
            Forge f = new Forge();
            int good = f.num(3);
            int fails = f.thatFails(fault);
            Check.refused("fault " + fault, due[fault], () -> f.x.work(fails));
            f.counts("fault " + fault, 3, fault);
            f.gives("the work behind fault " + fault, 3, good);
        }
    }

    private static void variable() {
        Doc.says("Promise 7", "VARIABLE i.");
        Forge f = new Forge();
        for (int i = 0; i < 8; i++) {
            f.holds("at first", i, 0);
            f.x.put(i, 10 + i);
        }
        for (int i = 0; i < 8; i++) {
            f.holds("behind put", i, 10 + i);
            f.holds("to ask changes nothing", i, 10 + i);
        }
    }

    private static void variableRefuses() {
        Doc.says("Promise 7", "IllegalArgumentException if i is not 0 to 7.");
        NameForge x = new NameForge();
        Check.due("variable(0)", 0, () -> x.variable(0));
        Check.due("variable(7)", 0, () -> x.variable(7));
        Check.illegal("variable(-1)", () -> x.variable(-1));
        Check.illegal("variable(8)", () -> x.variable(8));
        for (int far : FAR) {
            Check.illegal("variable(" + far + ")", () -> x.variable(far));
        }
    }

    private static void element() {
        Doc.says("Promise 8", "The ELEMENT at i, j.");
        Forge f = new Forge();
        f.x.bounds(5, 9, -9, -5);
        int set = f.set(f.elem(f.var(0), f.var(1)), f.var(4));
        for (int place = 0; place < 25; place++) {
            f.x.put(0, 5 + place / 5);
            f.x.put(1, -9 + place % 5);
            f.x.put(4, place + 0.25);
            f.x.work(set);
        }
        for (int place = 0; place < 25; place++) {
            int row = 5 + place / 5;
            int column = -9 + place % 5;
            Check.due("element(" + row + ", " + column + ")", place + 0.25, () -> f.x.element(row, column));
        }
    }

    private static void elementRefuses() {
        Doc.says("Promise 8", "IndexOutOfBoundsException if there is none.");
        NameForge x = new NameForge();
        x.bounds(-2, 0, 3, 3);
        for (int row = -4; row <= 2; row++) {
            for (int column = 1; column <= 5; column++) {
                int i = row;
                int j = column;
                if (row >= -2 && row <= 0 && column == 3) {
                    Check.due("element(" + i + ", " + j + ")", 0, () -> x.element(i, j));
                } else {
                    Check.refused("element(" + i + ", " + j + ")", IndexOutOfBoundsException.class,
                            () -> x.element(i, j));
                }
            }
        }
        for (int far : FAR) {
            Check.refused("a far row", IndexOutOfBoundsException.class, () -> x.element(far, 3));
            Check.refused("a far column", IndexOutOfBoundsException.class, () -> x.element(0, far));
            Check.refused("both far", IndexOutOfBoundsException.class, () -> x.element(far, far));
        }
    }

    /** What is not looked at is -1, whatever make was told of it. */
    private static void node() {
        Doc.says("Promise 9", "Of NODE n what 0: kind, 1: a, 2: b, 3: c (-1 for what is not looked at).");
        int[] parts = {1, 1, 2, 2, 2, 2, 2, 2, 2, 3, 1, 1, 3, 2, 2, 2, 1, 2};
        for (int kind = 0; kind <= 17; kind++) {
            NameForge x = new NameForge();
            for (int i = 0; i < 3; i++) {
                x.make(0, i, -1, -1);
            }
            x.make(kind, 1, 2, 0);
            int[] due = {kind, 1, parts[kind] >= 2 ? 2 : -1, parts[kind] == 3 ? 0 : -1};
            for (int what = 0; what <= 3; what++) {
                int asked = what;
                Check.due("kind " + kind + ", what " + what, due[what], () -> x.node(3, asked));
            }
        }
        NameForge x = new NameForge();
        x.make(0, Integer.MIN_VALUE, 7, 9);
        x.make(12, 3, -1, 0);
        x.make(12, 2, 0, -1);
        int[][] due = {{0, Integer.MIN_VALUE, -1, -1}, {12, 3, -1, 0}, {12, 2, 0, -1}};
        for (int n = 0; n < 3; n++) {
            for (int what = 0; what <= 3; what++) {
                int of = n;
                int asked = what;
                Check.due("node(" + n + ", " + what + ")", due[n][what], () -> x.node(of, asked));
            }
        }
    }

    private static void nodeRefusesWhat() {
        Doc.says("Promise 9", "IllegalArgumentException for another what;");
        NameForge x = new NameForge();
        x.make(0, 8, -1, -1);
        Check.due("node(0, 0)", 0, () -> x.node(0, 0));
        Check.due("node(0, 3)", -1, () -> x.node(0, 3));
        Check.illegal("node(0, -1)", () -> x.node(0, -1));
        Check.illegal("node(0, 4)", () -> x.node(0, 4));
        for (int far : FAR) {
            Check.illegal("node(0, " + far + ")", () -> x.node(0, far));
        }
        Check.illegal("node(1, 4) with one: told before the node", () -> x.node(1, 4));
    }

    private static void nodeRefusesNode() {
        Doc.says("Promise 9", "IndexOutOfBoundsException if there is no NODE n.");
        NameForge x = new NameForge();
        for (int i = 0; i < 48; i++) {
            int last = i;
            Check.refused("the node behind the last", IndexOutOfBoundsException.class, () -> x.node(last, 0));
            x.make(0, i, -1, -1);
            Check.due("the last node", last, () -> x.node(last, 1));
        }
        for (int n : new int[] {-1, 48, FAR[0], FAR[1], FAR[2], FAR[3]}) {
            for (int what = 0; what <= 3; what++) {
                int asked = what;
                Check.refused("node(" + n + ", " + what + ")", IndexOutOfBoundsException.class, () -> x.node(n, asked));
            }
        }
    }

    private static void clear() {
        Doc.says("Promise 10", "All NODES go, PROCEDURES have no BODY: how many there were.");
        for (int nodes : new int[] {0, 1, 47, 48}) {
            Forge f = new Forge();
            for (int i = 0; i < nodes; i++) {
                f.num(i);
            }
            for (int p = 0; p < 4 && nodes > 0; p++) {
                f.x.procedure(p, nodes - 1, 0, 0);
            }
            f.x.put(5, 2.5);
            f.x.bounds(0, 2, 0, 1);
            Check.due("clear() with " + nodes, nodes, () -> f.x.clear());
            f.counts("behind clear", 0, 0);
            Check.illegal("work(0) behind clear", () -> f.x.work(0));
            Check.refused("node(0, 0) behind clear", IndexOutOfBoundsException.class, () -> f.x.node(0, 0));
            Check.due("clear() again", 0, () -> f.x.clear());
            f.holds("variables stay", 5, 2.5);
            f.counts("the table stays", 1, 6);
            for (int i = 0; i < 44; i++) {
                f.num(7);
            }
            for (int p = 0; p < 4; p++) {
                f.faults("procedure " + p + " behind clear", 4, f.call(p));
            }
            Check.refused("a 49th behind clear", IllegalStateException.class, () -> f.num(7));
        }
    }

    private static void countNodesAndElements() {
        Doc.says("Promise 11", "What 0: NODES, 1: ELEMENTS;");
        Forge f = new Forge();
        for (int i = 0; i < 48; i++) {
            f.counts("nodes", 0, i);
            f.num(1);
        }
        f.counts("nodes", 0, 48);
        Check.refused("one more", IllegalStateException.class, () -> f.num(1));
        f.counts("nodes", 0, 48);
        f.counts("elements at first", 1, 1);
        f.x.bounds(0, 4, 0, 4);
        f.counts("the most elements", 1, 25);
        f.x.bounds(0, 3, 0, 1);
        f.counts("four rows, two columns", 1, 8);
        f.x.bounds(9, 9, 9, 9);
        f.counts("the fewest elements", 1, 1);
    }

    private static void ofTheWork(String what, Forge f, int... due) {
        for (int number = 2; number <= 6; number++) {
            f.counts(what, number, due[number - 2]);
        }
    }

    private static void countOfTheLatestWork() {
        Doc.says("Promise 11", "of the latest work (0 before one)");
        Forge f = new Forge();
        ofTheWork("before a work", f, 0, 0, 0, 0, 0);
        int jump = f.label(0, f.jump(0));
        f.x.procedure(0, f.over(jump, jump), 0, 0);
        int call = f.call(0);
        int number = f.num(4);
        f.x.put(4, 1);
        ofTheWork("before a work, behind other calls", f, 0, 0, 0, 0, 0);
        Check.illegal("work(-1)", () -> f.x.work(-1));
        ofTheWork("before a work, behind a refused one", f, 0, 0, 0, 0, 0);
        f.faults("a work with all of it", 1, call);
        ofTheWork("a work with all of it", f, 6, 1, 1, 1, 2);
        Check.illegal("work(48)", () -> f.x.work(48));
        f.x.put(4, 2);
        f.x.bounds(0, 0, 0, 0);
        ofTheWork("it is still the latest", f, 6, 1, 1, 1, 2);
        f.gives("a work with little of it", 4, number);
        ofTheWork("a work with little of it", f, 1, 0, 0, 0, 0);
        f.faults("a work with all of it", 1, call);
        f.x.clear();
        ofTheWork("behind clear it is still the latest", f, 6, 1, 1, 1, 2);
    }

    private static void countNodesWorkedOut() {
        Doc.says("Promise 11", "2: NODES worked out (300 at most),");
        Forge f = new Forge();
        int i = f.var(0);
        int loop = f.loop(f.less(i, f.num(42)), f.set(i, f.add(i, f.num(1))));
        f.gives("a loop of 42 turns", 0, loop);
        f.counts("a loop of 42 turns", 2, 298);
        int two = f.label(0, f.label(0, loop));
        f.x.put(0, 0);
        f.gives("300 nodes", 0, two);
        f.counts("300 nodes", 2, 300);
        f.x.put(0, 0);
        f.faults("301 nodes", 8, f.label(0, two));
        f.counts("301 nodes", 2, 300);
        f.x.put(0, -1000);
        f.faults("many more", 8, loop);
        f.counts("many more", 2, 300);
        f.faults("a fault in the third", 1, f.bad());
        f.counts("a fault in the third", 2, 3);
    }

    private static void countFault() {
        Doc.says("Promise 11", "3: the number of its FAULT (0 without),");
        for (int fault = 1; fault <= 8; fault++) {
            Forge f = new Forge();
            int good = f.num(1);
            int fails = f.thatFails(fault);
            f.counts("before", 3, 0);
            Check.refused("fault " + fault, Forge.exceptionOf(fault), () -> f.x.work(fails));
            f.counts("behind fault " + fault, 3, fault);
            f.x.work(good);
            f.counts("behind a work without", 3, 0);
        }
    }

    private static void countCalls() {
        Doc.says("Promise 11", "4: CALLS whose BODY began,");
        Forge f = new Forge();
        int call = f.call(0, f.num(1));
        f.faults("no body", 4, call);
        f.counts("no body", 4, 0);
        f.x.procedure(0, f.par(0), 1, 0);
        f.gives("one", 1, call);
        f.counts("one", 4, 1);
        f.gives("two", 2, f.add(call, call));
        f.counts("two", 4, 2);
        f.faults("a value that fails", 1, f.call(0, f.bad()));
        f.counts("a value that fails", 4, 0);
        f.faults("no node for its parameter", 4, f.call(0));
        f.counts("no node for its parameter", 4, 0);
        f.x.procedure(1, f.bad(), 0, 0);
        f.faults("a body that fails", 1, f.call(1));
        f.counts("a body that fails", 4, 1);
        f.x.procedure(2, f.jump(0), 0, 0);
        f.gives("a body that is left", 0, f.label(0, f.call(2)));
        f.counts("a body that is left", 4, 1);
        f.faults("the ninth", 7, f.thatFails(7));
        f.counts("the ninth", 4, 8);
    }

    private static void countEnvironments() {
        Doc.says("Promise 11", "5: the most ENVIRONMENTS one in another,");
        Forge f = new Forge();
        int p = f.par(0);
        int one = f.num(1);
        f.gives("the outermost alone", 1, one);
        f.counts("the outermost alone", 5, 0);
        f.x.procedure(0, p, 1, 0);
        f.x.procedure(1, p, 1, 1);
        f.gives("a call by value", 1, f.call(0, one));
        f.counts("a call by value", 5, 1);
        f.gives("a call by name", 1, f.call(1, one));
        f.counts("a call by name", 5, 2);
        f.gives("a call by name, then one by value", 1, f.then(f.call(1, one), f.call(0, one)));
        f.counts("the most, not the latest", 5, 2);
        f.gives("a call in a parameter by name", 1, f.call(1, f.call(0, one)));
        f.counts("a call in a parameter by name", 5, 3);
        f.gives("a call in a parameter by value", 1, f.call(0, f.call(1, one)));
        f.counts("a call in a parameter by value", 5, 2);
        f.x.procedure(2, f.set(p, one), 1, 1);
        f.gives("a parameter that is set by name", 1, f.call(2, f.var(4)));
        f.counts("a parameter that is set by name", 5, 2);
        f.faults("nine", 7, f.thatFails(7));
        f.counts("nine", 5, 8);
    }

    private static void countJumps() {
        Doc.says("Promise 11", "6: JUMPS that came to their LABEL.");
        Forge f = new Forge();
        int jump = f.jump(0);
        f.faults("without a label", 5, jump);
        f.counts("without a label", 6, 0);
        int label = f.label(0, jump);
        f.gives("one", 0, label);
        f.counts("one", 6, 1);
        f.gives("three", 0, f.then(label, label, label));
        f.counts("three", 6, 3);
        f.gives("one through a label of another number", 0, f.label(0, f.label(1, jump)));
        f.counts("one through a label of another number", 6, 1);
        f.gives("a label without a jump", 2, f.label(0, f.num(2)));
        f.counts("a label without a jump", 6, 0);
        f.faults("one, then one without", 5, f.then(label, jump));
        f.counts("one, then one without", 6, 1);
        f.faults("one, then another fault", 1, f.then(label, f.bad()));
        f.counts("one, then another fault", 6, 1);
    }

    private static void countRefuses() {
        Doc.says("Promise 11", "IllegalArgumentException for others.");
        NameForge x = new NameForge();
        for (int what = 0; what <= 6; what++) {
            int asked = what;
            Check.due("count(" + what + ")", what == 1 ? 1 : 0, () -> x.count(asked));
        }
        Check.illegal("count(-1)", () -> x.count(-1));
        Check.illegal("count(7)", () -> x.count(7));
        for (int far : FAR) {
            Check.illegal("count(" + far + ")", () -> x.count(far));
        }
    }
}
