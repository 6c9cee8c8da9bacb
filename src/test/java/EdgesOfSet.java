/** The edges of kind 13, SET, in the terms: what can be set, when, and where. */
final class EdgesOfSet {
    private static final String TERMS = "Terms";

    private EdgesOfSet() {
    }

    static void run() {
        bFirst();
        variable();
        element();
        local();
        parameterByValue();
        parameterByName();
        anotherOne();
        anotherOneBeforeB();
        parameterFollowedBehindB();
        itsValue();
    }

    private static void bFirst() {
        Doc.says(TERMS, "13 SET: b is worked out, then NODE a becomes that:");
        Forge f = new Forge();
        f.x.bounds(1, 3, 1, 1);
        int i = f.var(0);
        f.x.put(0, 1);
        f.gives("SET of an element in the row that b sets", 3, f.set(f.elem(i, f.num(1)), f.set(i, f.num(3))));
        Check.due("the row behind b", 3, () -> f.x.element(3, 1));
        Check.due("the row before b", 0, () -> f.x.element(1, 1));
        f.x.put(4, 6);
        f.faults("a b that fails", 1, f.set(f.var(4), f.bad()));
        f.holds("nothing becomes of it", 4, 6);
        f.faults("b fails before the element is seen not to be there", 1, f.set(f.elem(f.num(9), i), f.bad()));
    }

    private static void variable() {
        Doc.says(TERMS, "a VARIABLE (an INTEGER one that, rounded),");
        double[][] rows = {{2.5, 3}, {2.375, 2}, {-2.5, -2}, {-2.625, -3}, {-0.5, 0}, {0.5, 1}};
        for (int i = 0; i < 8; i++) {
            Forge f = new Forge();
            for (double[] r : rows) {
                f.gives("SET of variable " + i + " to " + r[0], i < 4 ? r[1] : r[0], f.set(f.var(i), f.num(r[0])));
                f.holds("behind SET to " + r[0], i, i < 4 ? r[1] : r[0]);
            }
            for (int other = 0; other < 8; other++) {
                f.holds("another one", other, other == i ? (i < 4 ? 1 : 0.5) : 0);
            }
        }
    }

    private static void element() {
        Doc.says(TERMS, "an ELEMENT,");
        Forge f = new Forge();
        f.x.bounds(-1, 1, 3, 4);
        int set = f.set(f.elem(f.var(0), f.var(1)), f.num(2.5));
        f.x.put(0, 1);
        f.x.put(1, 3);
        f.gives("an element that is there", 2.5, set);
        for (int row = -1; row <= 1; row++) {
            for (int column = 3; column <= 4; column++) {
                int i = row;
                int j = column;
                Check.due("element " + i + ", " + j, i == 1 && j == 3 ? 2.5 : 0, () -> f.x.element(i, j));
            }
        }
        f.x.put(0, 2);
        f.faults("an element that is not there", 3, set);
    }

    private static void local() {
        Doc.says(TERMS, "a LOCAL,");
        Forge f = new Forge();
        int b = f.local(1);
        f.x.procedure(0, f.then(f.set(b, f.num(2.5)), f.add(f.mul(f.num(10), f.local(0)), b)), 0, 0);
        f.gives("local 1 in a call", 2.5, f.call(0));
        f.faults("local 1 outermost", 4, f.set(b, f.num(2.5)));
    }

    private static void parameterByValue() {
        Doc.says(TERMS, "a PARAMETER by VALUE,");
        Forge f = new Forge();
        int p = f.par(1);
        int call = f.call(0, f.num(1), f.var(0));
        f.x.put(0, 9);
        f.x.procedure(0, f.then(f.set(p, f.num(2.5)), f.add(f.mul(f.num(10), f.par(0)), p)), 2, 0);
        f.gives("parameter 1 of two", 12.5, call);
        f.holds("what was given stays", 0, 9);
        f.x.procedure(0, f.set(p, f.num(2.5)), 1, 0);
        f.faults("parameter 1 of one", 4, call);
    }

    /** Procedure 1 sets what it is given; it is given what procedure 0 has, and both have locals of their own. */
    private static void parameterByName() {
        Doc.says(TERMS, "or, by NAME, the NODE that was given, in the ENVIRONMENT in which the CALL stands;");
        Forge f = new Forge();
        f.x.bounds(2, 2, 2, 2);
        int l = f.local(0);
        int p = f.par(0);
        int two = f.num(2);
        f.x.procedure(1, f.then(f.set(l, f.num(7)), f.set(p, f.num(3.5)), l), 1, 1);
        f.x.procedure(0, f.add(f.mul(f.num(100), f.call(1, l)), l), 1, 0);
        f.gives("the caller's local, not its own", 703.5, f.call(0, two));
        f.x.procedure(0, f.then(f.call(1, p), p), 1, 0);
        f.gives("the caller's parameter by value", 3.5, f.call(0, two));
        f.x.procedure(0, f.then(f.set(l, two), f.call(1, f.elem(l, l))), 1, 0);
        f.gives("an element at the caller's local", 7, f.call(0, two));
        Check.due("an element at the caller's local", 3.5, () -> f.x.element(2, 2));
        f.x.procedure(0, f.call(1, p), 1, 1);
        f.gives("by name through both", 7, f.call(0, f.var(1)));
        f.holds("an integer one by name is rounded", 1, 4);
        f.gives("by name through both", 7, f.call(0, f.var(5)));
        f.holds("a real one by name is not", 5, 3.5);
        f.faults("a local given outermost", 4, f.call(1, l));
        f.faults("a parameter given outermost", 4, f.call(0, p));
        f.faults("a number through both", 6, f.call(0, two));
    }

    private static void anotherOne() {
        Doc.says(TERMS, "another one is a FAULT 6");
        for (int kind = 0; kind <= 17; kind++) {
            Forge f = new Forge();
            int one = f.num(1);
            int target = f.x.make(kind, kind == 12 ? 3 : one, one, one);
            f.x.procedure(3, one, 0, 0);
            f.x.procedure(2, f.set(target, one), 2, 0);
            int direct = f.call(2, one, f.num(2));
            f.x.procedure(1, f.set(f.par(0), one), 1, 1);
            f.x.procedure(0, f.call(1, target), 2, 0);
            int byName = f.call(0, one, f.num(2));
            f.x.bounds(0, 1, 0, 1);
            if (kind == 1 || kind == 2 || kind == 10 || kind == 11) {
                f.gives("SET of kind " + kind, 1, direct);
                f.gives("SET of kind " + kind + " by name", 1, byName);
            } else {
                f.faults("SET of kind " + kind, 6, direct);
                f.faults("SET of kind " + kind + " by name", 6, byName);
            }
        }
    }

    private static void anotherOneBeforeB() {
        Doc.says(TERMS, "(before b is worked out,");
        Forge f = new Forge();
        f.faults("SET of a number", 6, f.set(f.num(1), f.mark(4, 1)));
        f.holds("b is not worked out", 4, 0);
        f.counts("SET alone", 2, 1);
        f.faults("SET of a sum that would fail, to what would fail", 6, f.set(f.add(f.bad(), f.bad()), f.bad()));
        f.counts("SET alone", 2, 1);
    }

    private static void parameterFollowedBehindB() {
        Doc.says(TERMS, "but a PARAMETER is followed behind that).");
        Forge f = new Forge();
        int mark = f.mark(4, 1);
        f.x.procedure(0, f.set(f.par(0), mark), 1, 1);
        f.faults("SET by name of a number", 6, f.call(0, f.num(1)));
        f.holds("b is worked out before", 4, 1);
        f.faults("SET of a parameter that is not there", 4, f.set(f.par(0), mark));
        f.holds("b is worked out before", 4, 11);
        f.faults("SET by name of a parameter that is not there", 4, f.call(0, f.par(0)));
        f.holds("b is worked out before", 4, 111);
        f.x.procedure(0, f.set(f.par(0), f.bad()), 1, 1);
        f.faults("a b that fails comes first", 1, f.call(0, f.num(1)));
    }

    private static void itsValue() {
        Doc.says(TERMS, "The value is what it has become.");
        Forge f = new Forge();
        int one = f.num(1);
        int half = f.num(1.5);
        f.gives("SET of an integer variable", 2, f.set(f.var(3), half));
        f.gives("SET of a real variable", 1.5, f.set(f.var(4), half));
        f.gives("SET of an element", 1.5, f.set(f.elem(one, one), half));
        f.x.procedure(0, f.set(f.local(0), half), 0, 0);
        f.gives("SET of a local", 1.5, f.call(0));
        f.x.procedure(0, f.set(f.par(0), half), 1, 0);
        f.gives("SET of a parameter by value", 1.5, f.call(0, one));
        f.x.procedure(0, f.set(f.par(0), half), 1, 1);
        f.gives("SET by name of an integer variable", 2, f.call(0, f.var(0)));
        f.gives("SET by name of a real variable", 1.5, f.call(0, f.var(7)));
    }
}
