/** Promise 11: count. */
final class Promise11CountTest {
    public static void main(String[] args) {
        nodesAndElements();
        ofTheLatestWork();
        refusedCallsAreNoWork();
        eachFault();
        refusals();
        Check.end();
    }

    private static void all(String what, Forge f, int... due) {
        for (int number = 2; number <= 6; number++) {
            f.counts(what, number, due[number - 2]);
        }
    }

    private static void nodesAndElements() {
        Forge f = new Forge();
        f.counts("at first", 0, 0);
        f.counts("at first", 1, 1);
        f.num(1);
        f.num(2);
        f.x.bounds(0, 2, 0, 3);
        f.counts("two nodes", 0, 2);
        f.counts("three rows, four columns", 1, 12);
    }

    private static void ofTheLatestWork() {
        Forge f = new Forge();
        all("before a work", f, 0, 0, 0, 0, 0);
        int jump = f.label(1, f.jump(1));
        int p = f.par(0);
        f.x.procedure(0, f.add(p, p), 1, 1);
        int call = f.call(0, f.add(jump, jump));
        f.gives("two times two jumps in a call", 0, call);
        all("two times two jumps in a call", f, 1 + 1 + 2 + 2 * 5, 0, 1, 2, 4);
        f.gives("two calls", 0, f.then(call, call));
        all("two calls", f, 29, 0, 2, 2, 8);
        f.gives("a number", 2, f.num(2));
        all("a number", f, 1, 0, 0, 0, 0);
        int zero = f.num(0);
        f.faults("a fault behind a call and a jump", 1, f.then(f.call(0, zero), jump, f.over(zero, zero), call));
        all("a fault behind a call and a jump", f, 3 + 6 + 2 + 3, 1, 1, 2, 1);
    }

    private static void refusedCallsAreNoWork() {
        Forge f = new Forge();
        int jump = f.label(1, f.jump(1));
        f.x.procedure(0, f.over(jump, jump), 0, 0);
        f.faults("a fault in a call", 1, f.call(0));
        all("a fault in a call", f, 6, 1, 1, 1, 2);
        Check.illegal("work(99)", () -> f.x.work(99));
        all("a work that is refused changes nothing", f, 6, 1, 1, 1, 2);
        f.x.put(0, 1);
        f.x.bounds(0, 1, 0, 1);
        f.num(1);
        f.x.clear();
        all("nor does another call", f, 6, 1, 1, 1, 2);
    }

    private static void eachFault() {
        Forge f = new Forge();
        int zero = f.num(0);
        f.x.put(4, 1e9);
        f.faults("over 0", 1, f.over(zero, zero));
        f.faults("too large", 2, f.add(f.var(4), f.var(4)));
        f.faults("no element", 3, f.elem(zero, zero));
        f.faults("no parameter", 4, f.par(0));
        f.faults("no label", 5, f.jump(0));
        f.faults("not to be set", 6, f.set(zero, zero));
        int call = f.call(0);
        f.x.procedure(0, call, 0, 0);
        f.faults("too deep", 7, call);
        f.faults("too long", 8, f.loop(f.var(4), zero));
        f.gives("none", 0, zero);
    }

    private static void refusals() {
        NameForge x = new NameForge();
        for (int what : new int[] {-1, 7, Integer.MIN_VALUE, Integer.MAX_VALUE}) {
            Check.illegal("count(" + what + ")", () -> x.count(what));
        }
    }
}
