/** Promise 6: SET, kind 13. */
final class Promise06SetTest {
    public static void main(String[] args) {
        variables();
        elements();
        localsAndValues();
        byName();
        byNameToWhatTheCallerHas();
        byNameElementIsFoundWhereTheCallStands();
        notToBeSet();
        parametersAreFollowedBehindTheValue();
        notThere();
        whatWasSetStays();
        Check.end();
    }

    private static void variables() {
        Forge f = new Forge();
        f.gives("an integer one becomes it rounded", 3, f.set(f.var(3), f.num(2.5)));
        f.holds("an integer one", 3, 3);
        f.gives("a real one", 2.5, f.set(f.var(4), f.num(2.5)));
        f.holds("a real one", 4, 2.5);
        f.gives("an integer one below 0", -2, f.set(f.var(0), f.num(-2.5)));
        f.counts("SET and its b", 2, 2);
        f.gives("a chain of SETs", 3, f.set(f.var(5), f.set(f.var(1), f.num(2.625))));
        f.holds("a chain of SETs", 5, 3);
    }

    private static void elements() {
        Forge f = new Forge();
        f.x.bounds(1, 2, 3, 4);
        int row = f.then(f.mark(4, 2), f.num(1.5));
        int column = f.then(f.mark(4, 3), f.num(3.25));
        int value = f.then(f.mark(4, 1), f.num(7.125));
        int set = f.set(f.elem(row, column), value);
        f.gives("an element is real", 7.125, set);
        f.holds("value, row, column", 4, 123);
        Check.due("element(2, 3)", 7.125, () -> f.x.element(2, 3));
        f.counts("a is not counted, its row and column are", 2, 1 + 3 * 8);
        int bad = f.over(f.num(1), f.num(0));
        f.x.put(4, 0);
        f.faults("a row that fails", 1, f.set(f.elem(bad, column), value));
        f.holds("no column behind it", 4, 1);
        f.counts("no column behind it", 2, 1 + 8 + 3);
        f.x.put(4, 0);
        f.faults("a value that fails", 1, f.set(f.elem(row, column), bad));
        f.holds("no row behind it", 4, 0);
        f.faults("a column that fails", 1, f.set(f.elem(f.num(1), bad), f.num(5)));
        Check.due("element(1, 3)", 0, () -> f.x.element(1, 3));
    }

    private static void localsAndValues() {
        Forge f = new Forge();
        int l = f.local(1);
        int p = f.par(0);
        int both = f.add(f.mul(f.num(100), p), l);
        f.x.procedure(0, f.then(f.set(l, f.num(2.5)), f.set(p, f.num(1.125)), both), 1, 0);
        int v = f.var(0);
        f.x.put(0, 9);
        f.gives("a local and a parameter by value are real", 115, f.call(0, v));
        f.holds("what was given by value stays", 0, 9);
        f.x.procedure(0, f.set(p, f.num(1.125)), 1, 0);
        f.gives("the value of SET", 1.125, f.call(0, v));
        f.x.procedure(0, f.set(l, f.num(2.5)), 1, 0);
        f.gives("the value of SET", 2.5, f.call(0, v));
    }

    private static void byName() {
        Forge f = new Forge();
        f.x.procedure(0, f.set(f.par(1), f.num(2.625)), 2, 2);
        f.gives("an integer variable by name", 3, f.call(0, f.num(0), f.var(2)));
        f.holds("an integer variable by name", 2, 3);
        f.counts("the call, its value, SET and its b", 2, 4);
        f.counts("the call and the parameter", 5, 2);
        f.gives("a real variable by name", 2.625, f.call(0, f.num(0), f.var(6)));
        f.holds("a real variable by name", 6, 2.625);
        f.x.procedure(1, f.call(0, f.num(0), f.par(0)), 1, 1);
        f.gives("by name through two calls", 3, f.call(1, f.var(1)));
        f.holds("by name through two calls", 1, 3);
        f.counts("two calls and two parameters", 5, 4);
        f.counts("call, call, value, SET and its b", 2, 5);
    }

    private static void byNameToWhatTheCallerHas() {
        Forge f = new Forge();
        int l = f.local(0);
        int p = f.par(0);
        f.x.procedure(1, f.then(f.set(l, f.num(1)), f.set(p, f.num(4.5)), l), 1, 1);
        f.x.procedure(0, f.add(f.mul(f.num(100), f.call(1, l)), l), 0, 0);
        f.gives("the caller's local is set, its own is not", 104.5, f.call(0));
        f.x.procedure(0, f.then(f.call(1, p), p), 1, 0);
        f.x.put(4, 9);
        f.gives("the caller's parameter by value is set", 4.5, f.call(0, f.var(4)));
        f.holds("what was given by value stays", 4, 9);
        f.x.procedure(0, f.then(f.call(1, p), p), 1, 1);
        f.gives("the caller's parameter by name is set", 4.5, f.call(0, f.var(4)));
        f.holds("what was given by name is set", 4, 4.5);
    }

    /** Row and column come from a local of the caller, not from that of the procedure that sets. */
    private static void byNameElementIsFoundWhereTheCallStands() {
        Forge f = new Forge();
        f.x.bounds(1, 5, 1, 5);
        int l = f.local(0);
        int p = f.par(0);
        f.x.procedure(1, f.then(f.set(l, f.num(5)), f.set(p, f.num(9))), 1, 1);
        int element = f.elem(l, f.add(l, f.num(1)));
        f.x.procedure(0, f.then(f.set(l, f.num(2)), f.call(1, element)), 0, 0);
        f.gives("an element by name", 9, f.call(0));
        Check.due("element(2, 3)", 9, () -> f.x.element(2, 3));
        f.faults("locals outermost", 4, f.call(1, element));
    }

    private static void notToBeSet() {
        for (int kind = 0; kind <= 17; kind++) {
            if (kind != 1 && kind != 2 && kind != 10 && kind != 11) {
                Forge f = new Forge();
                int zero = f.num(0);
                int n = f.x.make(kind, kind == 0 ? 8 : zero, zero, zero);
                int mark = f.mark(4, 1);
                int set = f.set(n, mark);
                f.faults("SET of kind " + kind, 6, set);
                f.holds("SET of kind " + kind + ": b is not worked out", 4, 0);
                f.counts("SET of kind " + kind + " alone", 2, 1);
                f.x.procedure(0, f.set(f.par(0), mark), 1, 1);
                f.faults("SET of kind " + kind + " by name", 6, f.call(0, n));
                f.holds("SET of kind " + kind + " by name: b is worked out before", 4, 1);
            }
        }
    }

    private static void parametersAreFollowedBehindTheValue() {
        Forge f = new Forge();
        f.x.bounds(1, 3, 1, 1);
        int i = f.var(0);
        f.x.put(0, 1);
        f.x.procedure(0, f.set(f.par(0), f.set(i, f.num(3))), 1, 1);
        f.gives("the row is worked out behind b", 3, f.call(0, f.elem(i, f.num(1))));
        Check.due("element(3, 1)", 3, () -> f.x.element(3, 1));
        Check.due("element(1, 1)", 0, () -> f.x.element(1, 1));
    }

    private static void notThere() {
        Forge f = new Forge();
        int mark = f.mark(4, 1);
        f.faults("SET of a parameter outermost", 4, f.set(f.par(0), mark));
        f.holds("b is worked out before", 4, 1);
        f.faults("SET of a local outermost", 4, f.set(f.local(1), mark));
        f.holds("b is worked out before", 4, 11);
        f.x.procedure(0, f.set(f.par(1), mark), 1, 3);
        f.faults("SET of parameter 1 of one", 4, f.call(0, f.var(0), f.var(0)));
        f.x.procedure(0, f.set(f.par(0), mark), 1, 1);
        f.faults("SET by name of a local outermost", 4, f.call(0, f.local(0)));
        f.faults("SET by name of a parameter outermost", 4, f.call(0, f.par(0)));
    }

    private static void whatWasSetStays() {
        Forge f = new Forge();
        int one = f.num(1);
        int bad = f.over(one, f.num(0));
        int sets = f.then(f.set(f.var(4), one), f.set(f.elem(one, one), f.num(2)));
        f.faults("a fault behind two SETs", 1, f.then(sets, bad));
        f.holds("what was set stays", 4, 1);
        Check.due("element(1, 1) stays", 2, () -> f.x.element(1, 1));
        f.faults("a fault in b", 1, f.set(f.var(4), bad));
        f.holds("what was not set stays too", 4, 1);
    }
}
