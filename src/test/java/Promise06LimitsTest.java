/** Promise 6: faults 7 and 8, at their very edges. */
final class Promise06LimitsTest {
    public static void main(String[] args) {
        environmentsOfCalls();
        environmentsOfNames();
        environmentsOfNamesThatAreSet();
        namesThatWereSetAreLeft();
        valuesComeBeforeTheirCall();
        valuesOfARefusedCall();
        nodesOneInAnother();
        nodesWorkedOut();
        Check.end();
    }

    /** Procedure 0 calls itself as often as variable 0 says. */
    private static void environmentsOfCalls() {
        Forge f = new Forge();
        int i = f.var(0);
        int call = f.call(0);
        f.x.procedure(0, f.iff(i, f.then(f.set(i, f.sub(i, f.num(1))), call), f.num(7)), 0, 0);
        f.x.put(0, 7);
        f.gives("eight calls one in another", 7, call);
        f.counts("eight calls", 4, 8);
        f.counts("eight calls", 5, 8);
        f.x.put(0, 8);
        f.faults("nine calls one in another", 7, call);
        f.counts("the ninth body did not begin", 4, 8);
        f.counts("nine calls", 5, 8);
        f.holds("what was set stays", 0, 0);
        f.x.put(0, 2);
        f.gives("one behind another", 7, f.then(call, call, call));
        f.counts("one behind another", 5, 3);
        f.counts("one behind another", 4, 5);
    }

    /** Procedures 0 to 3 each hand their parameter by name down; 0 goes through itself first if variable 0 is not 0. */
    private static void handDown(Forge f, int innermostBody) {
        int p = f.par(0);
        int i = f.var(0);
        f.x.procedure(3, innermostBody, 1, 1);
        f.x.procedure(2, f.call(3, p), 1, 1);
        f.x.procedure(1, f.call(2, p), 1, 1);
        f.x.procedure(0, f.iff(i, f.then(f.set(i, f.num(0)), f.call(0, p)), f.call(1, p)), 1, 1);
    }

    private static void environmentsOfNames() {
        Forge f = new Forge();
        handDown(f, f.par(0));
        int call = f.call(0, f.num(2));
        f.gives("four calls and four parameters", 2, call);
        f.counts("four calls and four parameters", 5, 8);
        f.counts("four calls, IF and its test, four parameters, a number", 2, 11);
        f.faults("a call inside of them", 7, f.call(0, f.call(3, f.num(1))));
        f.counts("its body did not begin", 4, 4);
        f.x.put(0, 1);
        f.faults("five calls and four parameters", 7, call);
        f.counts("five calls", 4, 5);
        f.counts("five calls and four parameters", 5, 8);
    }

    private static void environmentsOfNamesThatAreSet() {
        Forge f = new Forge();
        handDown(f, f.set(f.par(0), f.num(3)));
        int v = f.var(4);
        int one = f.num(1);
        f.gives("four calls and four parameters that are set", 3, f.call(0, v));
        f.holds("it is set", 4, 3);
        f.counts("four calls and four parameters that are set", 5, 8);
        f.counts("four calls, IF and its test, SET and its b", 2, 8);
        f.gives("a node in a row stands no deeper", 3, f.call(0, f.elem(one, one)));
        f.faults("a call in a row stands deeper", 7, f.call(0, f.elem(f.call(3, v), one)));
        f.counts("its body did not begin", 4, 4);
        f.x.put(0, 1);
        f.x.put(4, 0);
        f.faults("five calls and four parameters that are set", 7, f.call(0, v));
        f.counts("five calls and four parameters that are set", 5, 8);
        f.holds("it is not set", 4, 0);
        f.x.put(0, 1);
        f.faults("too deep before it is seen what was given", 7, f.call(0, one));
    }

    private static void namesThatWereSetAreLeft() {
        Forge f = new Forge();
        int p = f.par(0);
        handDown(f, f.set(p, f.num(3)));
        f.x.procedure(1, f.then(f.set(p, f.num(1)), p, f.call(2, p)), 1, 1);
        f.gives("set, worked out and handed down", 3, f.call(0, f.var(4)));
        f.counts("set, worked out and handed down", 5, 8);
    }

    /** By value the parameter has ended when the body begins: calls in it stand beside the call, not inside. */
    private static void valuesComeBeforeTheirCall() {
        Forge f = new Forge();
        f.x.procedure(1, f.add(f.par(0), f.num(1)), 1, 0);
        int n = f.num(0);
        for (int i = 0; i < 12; i++) {
            n = f.call(1, n);
        }
        f.gives("twelve calls, each in the value of the next", 12, n);
        f.counts("twelve calls", 4, 12);
        f.counts("but never one in another", 5, 1);
    }

    private static void valuesOfARefusedCall() {
        Forge f = new Forge();
        int i = f.var(0);
        int again = f.then(f.set(i, f.sub(i, f.num(1))), f.call(0, f.mark(4, 1)));
        f.x.procedure(0, f.iff(i, again, f.num(0)), 1, 0);
        f.x.put(0, 8);
        f.faults("the ninth call", 7, f.call(0, f.num(0)));
        f.holds("its value is worked out before it is refused", 4, 11111111);
    }

    private static void nodesOneInAnother() {
        Forge fits = new Forge();
        fits.gives("79 nodes", 3, fits.under(78, fits.num(3)));
        fits = new Forge();
        fits.gives("80 nodes", 5, fits.under(78, fits.add(fits.num(3), fits.num(2))));
        fits.counts("80 nodes one in another, and one beside", 2, 81);
        Forge deep = new Forge();
        int three = deep.add(deep.num(1), deep.add(deep.num(1), deep.num(1)));
        deep.faults("81 nodes", 7, deep.under(78, three));
        deep.counts("the 81st is not worked out", 2, 81);
        deep.counts("81 nodes", 5, 4);
        Forge jump = new Forge();
        jump.faults("a jump as the 81st", 7, jump.under(78, jump.label(0, jump.then(jump.jump(0), jump.num(1)))));
        jump.counts("it did not come to its label", 6, 0);
    }

    /** A loop of 42 turns is 4 + 7 * 42 = 298 nodes. */
    private static void nodesWorkedOut() {
        Forge f = new Forge();
        int i = f.var(0);
        int loop = f.loop(f.less(i, f.num(42)), f.set(i, f.add(i, f.num(1))));
        f.gives("298 nodes", 0, loop);
        f.counts("298 nodes", 2, 298);
        f.x.put(0, 0);
        int just = f.then(loop, f.num(9));
        f.gives("300 nodes", 9, just);
        f.counts("300 nodes", 2, 300);
        f.x.put(0, 0);
        f.faults("301 nodes", 8, f.label(0, just));
        f.counts("301 nodes", 2, 300);
        f.holds("what was set stays", 0, 42);
        f.faults("a loop without an end", 8, f.loop(f.num(1), f.num(1)));
        f.counts("a loop without an end", 2, 300);
        int call = f.call(0, f.num(3));
        f.x.procedure(0, f.par(0), 1, 0);
        f.x.put(0, 0);
        f.faults("a value that is the 301st", 8, f.then(loop, call));
        f.counts("its body did not begin", 4, 0);
        f.x.put(0, 0);
        f.faults("a jump that is the 301st", 8, f.label(0, f.then(loop, f.jump(0))));
        f.counts("it did not come to its label", 6, 0);
        f.gives("the next work is new", 3, call);
        f.counts("the next work is new", 2, 3);
    }
}
