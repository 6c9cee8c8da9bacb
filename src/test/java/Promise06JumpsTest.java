/** Promise 6: JUMP and LABEL, kinds 16 and 17. */
final class Promise06JumpsTest {
    public static void main(String[] args) {
        labels();
        innermost();
        otherNumbersAreLeft();
        withoutItsLabel();
        outOfEveryKind();
        outOfCallsAndNames();
        fromANameToALabelInTheBody();
        environmentsAreLeft();
        outOfALoopAndBack();
        Check.end();
    }

    private static void labels() {
        Forge f = new Forge();
        f.gives("a label without a jump", 5, f.label(0, f.num(5)));
        f.counts("no jump", 6, 0);
        int jump = f.jump(3);
        f.gives("a jump's label is 0", 0, f.label(3, f.then(f.num(5), jump, f.num(6))));
        f.counts("one jump", 6, 1);
        f.counts("what is behind the jump is not worked out", 2, 5);
        f.gives("on behind the label", 8, f.add(f.label(3, jump), f.num(8)));
    }

    private static void innermost() {
        Forge f = new Forge();
        int inner = f.label(1, f.then(f.jump(1), f.mark(4, 1)));
        int outer = f.label(1, f.then(inner, f.mark(4, 2), f.num(7)));
        f.gives("the innermost of two", 7, outer);
        f.holds("on behind the inner one", 4, 2);
        f.counts("one jump", 6, 1);
        Forge g = new Forge();
        int done = g.label(1, g.num(1));
        g.gives("one that has ended is passed over", 0, g.label(1, g.then(done, g.jump(1), g.num(3))));
    }

    private static void otherNumbersAreLeft() {
        Forge f = new Forge();
        int deep = f.label(2, f.label(0, f.label(3, f.jump(1))));
        f.gives("through labels of other numbers", 0, f.label(1, f.then(deep, f.mark(4, 1))));
        f.holds("nothing between them goes on", 4, 0);
        f.counts("one jump", 6, 1);
    }

    private static void withoutItsLabel() {
        Forge f = new Forge();
        int jump = f.jump(2);
        f.faults("no label at all", 5, jump);
        f.counts("the jump is worked out", 2, 1);
        f.counts("it came to no label", 6, 0);
        f.faults("a label of another number", 5, f.label(1, jump));
        f.faults("a label that has ended", 5, f.then(f.label(2, f.num(1)), jump));
        f.faults("a label that took its jump", 5, f.then(f.label(2, jump), jump));
        f.counts("the first of two jumps", 6, 1);
        f.faults("a fault is not taken by a label", 1, f.label(2, f.over(f.num(1), f.num(0))));
        f.faults("nor are labels left open by it", 5, jump);
    }

    /** A jump in each part of each kind: nothing behind it goes on, and nothing is set. */
    private static void outOfEveryKind() {
        for (int kind = 2; kind <= 15; kind++) {
            for (int part = 0; part < 3; part++) {
                if (kind != 10 && kind != 11 && kind != 12 && !(kind == 13 && part == 0)) {
                    jumpOut(kind, part);
                }
            }
        }
        Forge f = new Forge();
        int one = f.num(1);
        int jump = f.jump(0);
        int mark = f.mark(4, 1);
        f.gives("out of the row of SET", 0, f.label(0, f.set(f.elem(jump, mark), one)));
        f.holds("no column behind it", 4, 0);
        f.gives("out of the column of SET", 0, f.label(0, f.set(f.elem(one, jump), one)));
        Check.due("nothing is set", 0, () -> f.x.element(1, 1));
        f.x.procedure(0, f.set(f.par(0), one), 1, 1);
        f.gives("out of the column by name", 0, f.label(0, f.call(0, f.elem(one, jump))));
        Check.due("nothing is set", 0, () -> f.x.element(1, 1));
    }

    private static void jumpOut(int kind, int part) {
        if (part == 2 && kind != 9) {
            return;
        }
        String what = "out of part " + part + " of kind " + kind;
        Forge f = new Forge();
        int jump = f.jump(0);
        int mark = f.mark(4, 1);
        int test = kind == 9 && part == 2 ? f.num(0) : kind == 13 ? f.var(5) : f.num(1);
        int a = part == 0 ? jump : test;
        int b = part == 1 ? jump : mark;
        int c = part == 2 ? jump : mark;
        f.x.put(5, 3);
        f.gives(what, 2, f.then(f.label(0, f.x.make(kind, a, b, c)), f.num(2)));
        f.counts(what, 6, 1);
        f.holds(what + ": nothing behind it", 4, 0);
        f.holds(what + ": nothing is set", 5, 3);
    }

    private static void outOfCallsAndNames() {
        Forge f = new Forge();
        int jump = f.jump(2);
        int mark = f.mark(4, 1);
        int call = f.call(0, jump, mark);
        f.x.procedure(0, f.then(f.par(0), mark), 2, 3);
        f.gives("out of a parameter by name", 0, f.label(2, call));
        f.holds("the body does not go on", 4, 0);
        f.counts("one body began", 4, 1);
        f.x.procedure(0, mark, 2, 0);
        f.gives("out of a first parameter by value", 0, f.label(2, call));
        f.holds("neither the second nor the body", 4, 0);
        f.counts("neither the second nor the body", 2, 3);
        f.counts("no body began", 4, 0);
        f.gives("out of a second parameter by value", 0, f.label(2, f.call(0, f.num(1), jump)));
        f.holds("the body does not begin", 4, 0);
        f.counts("no body began", 4, 0);
        f.x.procedure(0, f.then(jump, mark), 0, 0);
        f.gives("out of a body", 0, f.label(2, call));
        f.holds("the body does not go on", 4, 0);
    }

    /** The innermost label that is being worked out takes the jump, in whatever environment it stands. */
    private static void fromANameToALabelInTheBody() {
        Forge f = new Forge();
        f.x.procedure(0, f.then(f.label(2, f.then(f.par(0), f.num(3))), f.mark(4, 1), f.num(9)), 1, 1);
        int call = f.call(0, f.jump(2));
        f.gives("the label in the body takes it", 9, f.label(2, call));
        f.holds("the body goes on", 4, 1);
        f.gives("without one where the call stands", 9, call);
        f.counts("one jump", 6, 1);
    }

    /** Jumps leave environments behind: the next calls must not stand deeper for it. */
    private static void environmentsAreLeft() {
        Forge f = new Forge();
        int p = f.par(0);
        f.x.procedure(1, f.then(f.set(f.local(0), f.num(5)), p), 1, 1);
        f.x.procedure(0, f.call(1, p), 1, 1);
        int i = f.var(0);
        int out = f.label(0, f.call(0, f.jump(0)));
        int turn = f.then(out, f.set(i, f.add(i, f.num(1))));
        f.gives("five jumps out of four environments", 0, f.loop(f.less(i, f.num(5)), turn));
        f.counts("five jumps", 6, 5);
        f.counts("ten bodies", 4, 10);
        f.counts("two calls, two parameters", 5, 4);
        f.x.procedure(2, f.add(f.local(0), p), 1, 0);
        f.gives("a call behind them is new", 4, f.then(out, f.call(2, f.num(4))));
        f.x.procedure(3, f.then(f.set(f.local(0), f.num(6)), out, f.add(f.local(0), p)), 1, 0);
        f.gives("a call around them is as it was", 7, f.call(3, f.num(1)));
        f.faults("a fault inside of calls", 4, f.call(0, f.local(0)));
        f.gives("the next work is new", 4, f.call(2, f.num(4)));
        f.counts("the next work is new", 5, 1);
    }

    private static void outOfALoopAndBack() {
        Forge f = new Forge();
        int i = f.var(0);
        int raise = f.set(i, f.add(i, f.num(1)));
        int leave = f.iff(f.less(i, f.num(3)), f.num(0), f.jump(1));
        f.gives("a jump ends the loop", 0, f.label(1, f.loop(f.num(1), f.then(raise, leave))));
        f.holds("behind three turns", 0, 3);
        f.x.put(0, 0);
        int skip = f.label(1, f.then(raise, f.jump(1), f.mark(4, 1)));
        f.gives("a jump to a label inside ends the turn", 0, f.loop(f.less(i, f.num(4)), skip));
        f.counts("four turns", 6, 4);
        f.holds("each cut short", 4, 0);
    }
}
