/** Promise 6: calls, parameters by value and by name, locals: kinds 10 to 12. */
final class Promise06ParametersTest {
    public static void main(String[] args) {
        jensensDevice();
        byNameEachTimeAnew();
        byNameWhereTheCallStands();
        byNameThroughTwoCalls();
        valuesInOrder();
        localsOfTheirOwn();
        recursionKeepsItsOwn();
        aCallInsideAParameterByName();
        notThere();
        missingNodes();
        Check.end();
    }

    /** Sum of the second parameter while the first, by name, runs from where it is up to variable 3. */
    private static void jensensDevice() {
        Forge f = new Forge();
        int i = f.par(0);
        int total = f.local(0);
        int turn = f.then(f.set(total, f.add(total, f.par(1))), f.set(i, f.add(i, f.num(1))));
        f.x.procedure(0, f.then(f.loop(f.less(i, f.var(3)), turn), total), 2, 3);
        int k = f.var(0);
        int sum = f.call(0, k, f.mul(k, k));
        f.x.put(3, 5);
        f.x.put(0, 1);
        f.gives("the sum of the squares", 30, sum);
        f.holds("the index runs outside", 0, 5);
        f.x.put(0, 2);
        f.gives("the sum from 2", 29, sum);
    }

    private static void byNameEachTimeAnew() {
        Forge f = new Forge();
        int p = f.par(0);
        f.x.procedure(0, f.add(p, f.add(p, p)), 1, 1);
        int call = f.call(0, f.mark(4, 1));
        f.gives("1 + 11 + 111", 123, call);
        f.x.put(4, 0);
        f.x.procedure(0, f.num(7), 1, 1);
        f.gives("one that is not wanted", 7, call);
        f.holds("one that is not wanted is not worked out", 4, 0);
        f.x.procedure(0, f.add(p, f.add(p, p)), 1, 0);
        f.gives("by value, once", 3, call);
        f.holds("by value, once", 4, 1);
        f.x.put(4, 0);
        f.x.procedure(0, f.num(7), 1, 0);
        f.gives("by value, not wanted", 7, call);
        f.holds("by value, not wanted, yet worked out", 4, 1);
    }

    /** The inner procedure has locals of its own, but the parameter by name sees those of the outer one. */
    private static void byNameWhereTheCallStands() {
        Forge f = new Forge();
        int l = f.local(0);
        f.x.procedure(1, f.then(f.set(l, f.num(5)), f.add(f.mul(f.num(10), l), f.par(0))), 1, 1);
        f.x.procedure(0, f.then(f.set(l, f.num(3)), f.call(1, l)), 0, 0);
        f.gives("its own local 5, the caller's 3", 53, f.call(0));
        f.x.procedure(1, f.add(f.mul(f.num(10), f.par(1)), f.par(0)), 2, 1);
        f.x.procedure(0, f.call(1, f.par(1), f.par(0)), 2, 0);
        f.gives("the caller's parameters, crossed", 12, f.call(0, f.num(1), f.num(2)));
        f.faults("a local where the call stands outermost", 4, f.call(1, l, f.num(2)));
    }

    private static void byNameThroughTwoCalls() {
        Forge f = new Forge();
        int p = f.par(0);
        f.x.procedure(2, f.then(f.set(f.var(4), f.num(6)), p), 1, 1);
        f.x.procedure(1, f.call(2, f.add(p, f.num(1))), 1, 1);
        f.x.procedure(0, f.call(1, f.add(p, f.num(10))), 1, 1);
        f.gives("by name all the way down", 617, f.call(0, f.mul(f.var(4), f.num(101))));
    }

    private static void valuesInOrder() {
        Forge f = new Forge();
        int both = f.add(f.mul(f.num(1000), f.par(0)), f.par(1));
        f.x.procedure(0, both, 2, 0);
        int call = f.call(0, f.mark(4, 1), f.mark(4, 2));
        f.gives("first 1, then 12", 1012, call);
        f.x.put(4, 0);
        f.x.procedure(0, both, 2, 1);
        f.gives("the second by value goes before the first by name", 21002, call);
        f.x.put(4, 0);
        f.x.procedure(0, both, 2, 2);
        f.gives("the first by value goes before the second by name", 1012, call);
        f.x.put(4, 0);
        f.x.procedure(0, f.par(0), 1, 0);
        f.gives("one more node than parameters", 1, call);
        f.holds("it is not worked out", 4, 1);
    }

    private static void localsOfTheirOwn() {
        Forge f = new Forge();
        int a = f.local(0);
        int b = f.local(1);
        int raise = f.then(f.set(a, f.add(a, f.num(1.5))), f.set(b, f.sub(b, a)), f.sub(a, b));
        f.x.procedure(0, raise, 0, 0);
        int call = f.call(0);
        f.gives("locals are 0 at first, and real", 3, call);
        f.gives("and so they are in the next work", 3, call);
        f.gives("and in the next call of one work", 6, f.add(call, call));
        f.faults("no locals outermost", 4, a);
        f.faults("no locals outermost behind a call", 4, f.then(call, b));
    }

    /** Each call adds its own parameter and local behind the inner call has ended. */
    private static void recursionKeepsItsOwn() {
        Forge f = new Forge();
        int p = f.par(0);
        int l = f.local(1);
        int inner = f.call(3, f.sub(p, f.num(1)));
        int body = f.then(f.set(l, f.mul(p, f.num(10))), f.iff(p, f.add(inner, f.add(p, l)), f.num(0)));
        f.x.procedure(3, body, 1, 0);
        f.gives("11 * (1 + 2 + 3 + 4)", 110, f.call(3, f.num(4)));
        f.counts("five calls", 4, 5);
        f.counts("five calls one in another", 5, 5);
    }

    /** While the outer body stands open, a call in its parameter by name must not spoil its values. */
    private static void aCallInsideAParameterByName() {
        Forge f = new Forge();
        int l = f.local(0);
        f.x.procedure(0, f.then(f.set(l, f.num(2)), f.add(f.par(0), f.add(l, f.par(1)))), 2, 1);
        f.x.procedure(1, f.then(f.set(l, f.num(70)), f.add(l, f.par(0))), 1, 0);
        int inner = f.call(1, f.num(400));
        f.gives("470 + 2 + 5", 477, f.call(0, inner, f.num(5)));
        f.counts("a call, a parameter, a call", 5, 3);
        f.counts("two bodies", 4, 2);
        f.gives("a call in a value", 474, f.call(0, f.num(2), inner));
        f.counts("the value has ended before the body begins", 5, 2);
    }

    private static void notThere() {
        Forge f = new Forge();
        int p0 = f.par(0);
        int p1 = f.par(1);
        f.faults("a parameter outermost", 4, p0);
        f.faults("a parameter outermost", 4, p1);
        int call = f.call(0, f.num(1), f.num(2));
        f.x.procedure(0, p0, 0, 3);
        f.faults("parameter 0 of none", 4, call);
        f.counts("the body has begun", 4, 1);
        f.x.procedure(0, p1, 1, 3);
        f.faults("parameter 1 of one", 4, call);
        f.x.procedure(0, p1, 2, 3);
        f.gives("parameter 1 of two", 2, call);
        f.x.procedure(1, p0, 1, 1);
        f.faults("a parameter given by name that is not there outermost", 4, f.call(1, p0));
    }

    private static void missingNodes() {
        Forge f = new Forge();
        int mark = f.mark(4, 1);
        int p = f.par(0);
        int none = f.call(0);
        int first = f.call(0, mark);
        int second = f.call(0, -1, mark);
        f.faults("no body", 4, first);
        f.holds("no body: nothing is worked out", 4, 0);
        for (int names = 0; names <= 3; names++) {
            f.x.procedure(0, f.num(7), 2, names);
            f.faults("none of two", 4, none);
            f.faults("the second of two is not there", 4, first);
            f.counts("only the call itself", 2, 1);
            f.faults("the first of two is not there", 4, second);
            f.counts("no body has begun", 4, 0);
            f.holds("nothing of it is worked out", 4, 0);
            f.x.procedure(0, f.num(7), 1, names);
            f.faults("the first of one is not there", 4, second);
            f.x.procedure(0, f.num(7), 0, names);
            f.gives("none of none", 7, none);
            f.gives("the first of none", 7, first);
        }
        f.holds("what no parameter takes is not worked out", 4, 0);
        f.x.procedure(0, p, 1, 0);
        f.gives("one of one", 1, first);
    }
}
