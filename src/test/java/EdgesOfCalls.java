/** The edges of environments and of kinds 10 to 12, in the terms. */
final class EdgesOfCalls {
    private static final String TERMS = "Terms";

    private EdgesOfCalls() {
    }

    static void run() {
        environmentOfACall();
        localsAreRealAndZeroAtFirst();
        outermostEnvironment();
        parameterNumbers();
        byValueTheValueItHas();
        byNameWhereTheCallStands();
        localNumbers();
        procedureNumbers();
        nodesForParameters();
        valuesNowAndInOrder();
        valueOfTheBody();
    }

    /** Each call counts its parameter down and adds its local to what the inner one gives: all must be its own. */
    private static void environmentOfACall() {
        Doc.says(TERMS, "A NODE is worked out in an ENVIRONMENT: that of a CALL, with its PARAMETERS and LOCALS 0, 1");
        Forge f = new Forge();
        int p = f.par(0);
        int a = f.local(0);
        int b = f.local(1);
        int own = f.then(f.set(a, f.mul(p, f.num(10))), f.set(b, f.mul(p, f.num(100))));
        int inner = f.call(0, f.sub(p, f.num(1)));
        int all = f.add(inner, f.add(p, f.add(a, b)));
        f.x.procedure(0, f.then(own, f.iff(p, all, f.num(0))), 1, 0);
        f.gives("a call without another in it", 0, f.call(0, f.num(0)));
        f.gives("111 * (1 + 2 + 3)", 666, f.call(0, f.num(3)));
    }

    private static void localsAreRealAndZeroAtFirst() {
        Doc.says(TERMS, "(REAL, 0 at first),");
        Forge f = new Forge();
        for (int i = 0; i <= 1; i++) {
            int l = f.local(i);
            f.x.procedure(i, l, 0, 0);
            f.gives("local " + i + " at first", 0, f.call(i));
            f.x.procedure(i, f.then(f.set(l, f.add(l, f.num(0.375))), l), 0, 0);
            int call = f.call(i);
            f.gives("local " + i + " is real", 0.375, call);
            f.gives("local " + i + " is 0 again in the next work", 0.375, call);
            f.gives("local " + i + " is 0 again in the next call", 0.75, f.add(call, call));
        }
        Forge g = new Forge();
        g.x.procedure(0, g.then(g.set(g.local(0), g.num(3)), g.local(1)), 0, 0);
        g.gives("one is not the other", 0, g.call(0));
    }

    private static void outermostEnvironment() {
        Doc.says(TERMS, "or the outermost one, without these. Its value:");
        Forge f = new Forge();
        int one = f.num(1);
        f.x.procedure(0, one, 2, 3);
        int call = f.call(0, one, one);
        for (int i = 0; i <= 1; i++) {
            f.faults("parameter " + i + " outermost", 4, f.par(i));
            f.faults("local " + i + " outermost", 4, f.local(i));
            f.faults("parameter " + i + " outermost behind a call", 4, f.then(call, f.par(i)));
            f.faults("local " + i + " outermost behind a call", 4, f.then(call, f.local(i)));
            f.faults("parameter " + i + " to be set outermost", 4, f.set(f.par(i), one));
            f.faults("local " + i + " to be set outermost", 4, f.set(f.local(i), one));
        }
        f.gives("a number outermost", 1, one);
    }

    private static void parameterNumbers() {
        Doc.says(TERMS, "10 PARAMETER a (0, 1):");
        for (int names = 0; names <= 3; names++) {
            Forge f = new Forge();
            f.x.procedure(0, f.par(0), 2, names);
            f.x.procedure(1, f.par(1), 2, names);
            f.gives("parameter 0, names " + names, 5, f.call(0, f.num(5), f.num(6)));
            f.gives("parameter 1, names " + names, 6, f.call(1, f.num(5), f.num(6)));
            Check.illegal("parameter -1", () -> f.par(-1));
            Check.illegal("parameter 2", () -> f.par(2));
        }
    }

    private static void byValueTheValueItHas() {
        Doc.says(TERMS, "by VALUE the value it has;");
        Forge f = new Forge();
        int p = f.par(0);
        int v = f.var(4);
        int call = f.call(0, v);
        f.x.put(4, 3);
        f.x.procedure(0, f.then(f.set(v, f.num(8)), p), 1, 0);
        f.gives("what it was given stays", 3, call);
        f.x.procedure(0, f.then(f.set(p, f.num(0.625)), f.add(p, p)), 1, 0);
        f.gives("what it was set to, and real", 1.25, call);
        f.holds("what was given is not set", 4, 8);
        f.x.procedure(0, f.add(p, f.add(p, p)), 1, 0);
        f.x.put(4, 0);
        f.gives("worked out once, though taken three times", 3, f.call(0, f.mark(4, 1)));
        f.holds("worked out once", 4, 1);
    }

    /** Procedure 0 has local 0 = 2 and parameter 0 = 7, procedure 1 has 30 and what procedure 0 gives. */
    private static void byNameWhereTheCallStands() {
        Doc.says(TERMS, "by NAME that of the NODE that was given,"
                + " worked out in the ENVIRONMENT in which the CALL stands.");
        Forge f = new Forge();
        int l = f.local(0);
        int p = f.par(0);
        f.x.procedure(1, f.then(f.set(l, f.num(30)), f.add(l, p)), 1, 1);
        int withLocal = f.then(f.set(l, f.num(2)), f.call(1, l));
        f.x.procedure(0, withLocal, 1, 0);
        int call = f.call(0, f.num(7));
        f.gives("the caller's local", 32, call);
        f.x.procedure(0, f.call(1, p), 1, 0);
        f.gives("the caller's parameter by value", 37, call);
        f.x.procedure(0, f.call(1, f.add(p, l)), 1, 1);
        f.faults("the caller's parameter by name, given outermost where no local is", 4, f.call(0, l));
        f.gives("the caller's parameter by name", 37, call);
        f.faults("a local given outermost", 4, f.call(1, l));
        f.faults("a parameter given outermost", 4, f.call(1, p));
        f.x.procedure(2, f.add(p, f.add(p, p)), 1, 1);
        f.gives("anew each time: 1 + 11 + 111", 123, f.call(2, f.mark(4, 1)));
        f.x.procedure(2, f.num(9), 1, 1);
        f.gives("never wanted", 9, f.call(2, f.bad()));
    }

    private static void localNumbers() {
        Doc.says(TERMS, "11 LOCAL a (0, 1).");
        Forge f = new Forge();
        int a = f.local(0);
        int b = f.local(1);
        int both = f.then(f.set(a, f.num(5)), f.set(b, f.num(6)));
        f.x.procedure(0, f.then(both, a), 0, 0);
        f.x.procedure(1, f.then(both, b), 0, 0);
        f.gives("local 0", 5, f.call(0));
        f.gives("local 1", 6, f.call(1));
        Check.illegal("local -1", () -> f.local(-1));
        Check.illegal("local 2", () -> f.local(2));
    }

    private static void procedureNumbers() {
        Doc.says(TERMS, "12 CALL: PROCEDURE a,");
        Forge f = new Forge();
        for (int p = 0; p < 4; p++) {
            f.x.procedure(p, f.num(p + 1), 0, 0);
        }
        for (int p = 0; p < 4; p++) {
            f.gives("a call of procedure " + p, p + 1, f.call(p));
        }
        Check.illegal("a call of procedure -1", () -> f.call(-1));
        Check.illegal("a call of procedure 4", () -> f.call(4));
    }

    private static void nodesForParameters() {
        Doc.says(TERMS, "with NODES b, c for its PARAMETERS");
        Forge f = new Forge();
        int mark = f.mark(4, 1);
        int both = f.add(f.mul(f.num(10), f.par(0)), f.par(1));
        f.x.procedure(0, both, 2, 0);
        f.gives("b for 0, c for 1", 56, f.call(0, f.num(5), f.num(6)));
        f.gives("one node for both", 55, f.call(0, f.num(5), f.num(5)));
        f.x.procedure(0, f.num(3), 1, 0);
        f.gives("c without a parameter", 3, f.call(0, f.num(5), mark));
        f.x.procedure(0, f.num(3), 0, 0);
        f.gives("b and c without parameters", 3, f.call(0, mark, mark));
        f.holds("what is for no parameter is not worked out", 4, 0);
    }

    private static void valuesNowAndInOrder() {
        Doc.says(TERMS, "(those by VALUE worked out now, in this order);");
        int[] due = {123, 23, 13, 3};
        for (int names = 0; names <= 3; names++) {
            Forge f = new Forge();
            int call = f.call(0, f.mark(4, 1), f.mark(4, 2));
            f.x.procedure(0, f.mark(4, 3), 2, names);
            f.gives("names " + names + ", none taken in the body", due[names], call);
        }
        Forge f = new Forge();
        f.x.procedure(0, f.num(3), 2, 0);
        f.faults("the first fails", 1, f.call(0, f.bad(), f.mark(4, 2)));
        f.holds("the second is not worked out", 4, 0);
        f.counts("the body did not begin", 4, 0);
        f.faults("the second fails", 1, f.call(0, f.mark(4, 1), f.bad()));
        f.holds("the first was worked out", 4, 1);
        f.counts("the body did not begin", 4, 0);
    }

    private static void valueOfTheBody() {
        Doc.says(TERMS, "the value is that of its BODY.");
        Forge f = new Forge();
        int call = f.call(0);
        f.x.procedure(0, f.num(-0.125), 0, 0);
        f.gives("the body's value", -0.125, call);
        f.x.procedure(0, f.then(f.num(4), f.num(5)), 0, 0);
        f.gives("the value of a later body", 5, call);
        f.x.procedure(1, call, 0, 0);
        f.gives("through a second call", 5, f.call(1));
        f.x.procedure(0, f.bad(), 0, 0);
        f.faults("a body that fails", 1, call);
    }
}
