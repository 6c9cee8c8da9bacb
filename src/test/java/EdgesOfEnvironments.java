/** The edge of 8 environments one in another, of fault 7 in the terms. */
final class EdgesOfEnvironments {
    private static final String TERMS = "Terms";

    private EdgesOfEnvironments() {
    }

    static void run() {
        callsOneInAnother();
        callsOneBehindAnother();
        callsCountFromTheirBody();
        namesWorkedOut();
        namesSet();
        namesHandedDown();
    }

    /** Procedure 0 calls itself, with this node given, until variable 0 is 0: the innermost call works out the leaf. */
    private static int recursion(Forge f, int given, int leaf, int names) {
        int i = f.var(0);
        int call = f.call(0, given);
        f.x.procedure(0, f.iff(i, f.then(f.set(i, f.sub(i, f.num(1))), call), leaf), 1, names);
        return call;
    }

    private static void callsOneInAnother() {
        Doc.says(TERMS, "more than 8 ENVIRONMENTS one in another (CALLS that go on,");
        for (int calls = 1; calls <= 9; calls++) {
            String what = calls + " calls one in another";
            Forge f = new Forge();
            int n = recursion(f, f.num(1), f.num(7), 0);
            f.x.put(0, calls - 1);
            if (calls <= 8) {
                f.gives(what, 7, n);
            } else {
                f.faults(what, 7, n);
            }
            f.counts(what, 4, Math.min(calls, 8));
            f.counts(what, 5, Math.min(calls, 8));
        }
    }

    private static void callsOneBehindAnother() {
        Forge f = new Forge();
        f.x.procedure(0, f.num(1), 0, 0);
        int call = f.call(0);
        int all = f.then(call, call, call, call, call, call, call, call, call, call, call, call);
        f.gives("twelve calls one behind another", 1, all);
        f.counts("twelve calls one behind another", 4, 12);
        f.counts("twelve calls one behind another", 5, 1);
    }

    /** A value is worked out before its call counts: so beside it, and also when the call is one too many. */
    private static void callsCountFromTheirBody() {
        Doc.says(TERMS, "from when their BODY begins, behind their PARAMETERS by VALUE,");
        Forge f = new Forge();
        f.x.procedure(1, f.par(0), 1, 0);
        int n = f.num(5);
        for (int i = 0; i < 9; i++) {
            n = f.call(1, n);
        }
        f.gives("nine calls, each the value of the next", 5, n);
        f.counts("nine calls", 4, 9);
        f.counts("nine calls", 5, 1);
        Forge g = new Forge();
        g.x.procedure(1, g.par(0), 1, 0);
        int inner = g.call(1, g.call(1, g.mark(4, 1)));
        int call = recursion(g, g.num(1), inner, 0);
        g.x.put(0, 6);
        g.gives("seven calls, and two beside one another in them", 1, call);
        g.counts("seven calls, and two beside one another in them", 5, 8);
        g.x.put(0, 7);
        g.faults("eight calls, and one in them", 7, call);
        g.holds("the value is worked out before", 4, 11);
        g.counts("the ninth did not begin", 4, 8);
    }

    /** By name the parameter counts while it is worked out, by value never. */
    private static void namesWorkedOut() {
        Doc.says(TERMS, "and PARAMETERS by NAME that are worked out");
        for (int names = 0; names <= 1; names++) {
            Forge f = new Forge();
            int p = f.par(0);
            int call = recursion(f, f.num(3), f.add(p, f.add(p, p)), names);
            f.x.put(0, 6);
            f.gives("seven calls, and parameters one behind another, names " + names, 9, call);
            f.counts("seven calls, names " + names, 5, 7 + names);
            f.x.put(0, 7);
            if (names == 0) {
                f.gives("eight calls, and parameters by value", 9, call);
            } else {
                f.faults("eight calls, and a parameter by name", 7, call);
                f.counts("eight calls began", 4, 8);
            }
            f.counts("eight calls, names " + names, 5, 8);
        }
    }

    private static void namesSet() {
        Doc.says(TERMS, "or set, count 1 each),");
        for (int names = 0; names <= 1; names++) {
            Forge f = new Forge();
            int p = f.par(0);
            int twice = f.then(f.set(p, f.num(3)), f.set(p, f.num(4)));
            int call = recursion(f, f.var(4), twice, names);
            f.x.put(0, 6);
            f.gives("seven calls, and parameters that are set, names " + names, 4, call);
            f.counts("seven calls, names " + names, 5, 7 + names);
            f.holds("set by name alone", 4, names * 4);
            f.x.put(0, 7);
            f.x.put(4, 0);
            if (names == 0) {
                f.gives("eight calls, and parameters by value that are set", 4, call);
            } else {
                f.faults("eight calls, and a parameter by name that is set", 7, call);
                f.holds("it is not set", 4, 0);
            }
            f.counts("eight calls, names " + names, 5, 8);
        }
    }

    /** Each call hands its own parameter by name down, so as many parameters as calls are followed one in another. */
    private static void namesHandedDown() {
        int[] kinds = {10, 13};
        for (int kind : kinds) {
            for (int calls = 1; calls <= 5; calls++) {
                String what = calls + " calls that hand a name down to kind " + kind;
                Forge f = new Forge();
                int p = f.par(0);
                recursion(f, p, kind == 10 ? p : f.set(p, f.num(2.5)), 1);
                int outer = f.call(0, f.var(4));
                f.x.put(4, kind == 10 ? 2.5 : 0);
                f.x.put(0, calls - 1);
                if (calls <= 4) {
                    f.gives(what, 2.5, outer);
                    f.holds(what, 4, 2.5);
                } else {
                    f.faults(what, 7, outer);
                }
                f.counts(what, 5, Math.min(2 * calls, 8));
            }
        }
    }
}
