/** The edges of kinds 14 to 17 in the terms: sequences, loops, jumps and labels. */
final class EdgesOfJumps {
    private static final String TERMS = "Terms";

    private EdgesOfJumps() {
    }

    static void run() {
        sequence();
        loop();
        jumpNumbers();
        innermostLabel();
        labelsThatAreBeingWorkedOut();
        inWhateverEnvironment();
        itsValueIsZero();
        labelsValue();
    }

    private static void sequence() {
        Doc.says(TERMS, "14 THEN: a, then b, the value of b.");
        Forge f = new Forge();
        f.gives("1, then 12", 12, f.then(f.mark(4, 1), f.mark(4, 2)));
        f.x.put(4, 0);
        f.faults("an a that fails", 1, f.then(f.bad(), f.mark(4, 2)));
        f.holds("no b behind it", 4, 0);
        f.faults("a b that fails", 1, f.then(f.mark(4, 1), f.bad()));
        f.holds("a before it", 4, 1);
    }

    /** The test marks 1 and the turn 2: their digits tell how often, and in which order, both were worked out. */
    private static void loop() {
        Doc.says(TERMS, "15 WHILE: a is worked out, and if it is not 0, b, and so on; 0 at last.");
        double[] digits = {1, 121, 12121, 1212121};
        for (int turns = 0; turns < 4; turns++) {
            Forge f = new Forge();
            int i = f.var(5);
            int test = f.then(f.mark(4, 1), i);
            int turn = f.then(f.mark(4, 2), f.set(i, f.sub(i, f.num(1))), f.num(9));
            f.x.put(5, turns);
            f.gives(turns + " turns", 0, f.loop(test, turn));
            f.holds(turns + " turns", 4, digits[turns]);
        }
        Forge f = new Forge();
        int v = f.var(4);
        int once = f.loop(v, f.set(v, f.set(f.var(5), f.num(0))));
        for (double test : new double[] {1, -1, Double.MIN_VALUE, -Double.MIN_VALUE, 0.125}) {
            f.x.put(4, test);
            f.gives("a test of " + test, 0, once);
            f.counts("one turn with a test of " + test, 2, 1 + 2 + 3);
        }
        for (double test : new double[] {0, -0.0}) {
            f.x.put(4, test);
            f.gives("a test of " + test, 0, once);
            f.counts("no turn with a test of " + test, 2, 2);
        }
        f.x.put(4, 1);
        f.faults("a turn that fails ends it", 1, f.loop(v, f.bad()));
        f.faults("a test that fails ends it", 1, f.loop(f.bad(), v));
    }

    private static void jumpNumbers() {
        Doc.says(TERMS, "16 JUMP a (0 to 3):");
        Forge f = new Forge();
        for (int jump = 0; jump < 4; jump++) {
            for (int label = 0; label < 4; label++) {
                int n = f.label(label, f.jump(jump));
                if (jump == label) {
                    f.gives("jump " + jump + " in label " + label, 0, n);
                } else {
                    f.faults("jump " + jump + " in label " + label, 5, n);
                }
            }
        }
        Check.illegal("jump -1", () -> f.jump(-1));
        Check.illegal("jump 4", () -> f.jump(4));
    }

    private static void innermostLabel() {
        Doc.says(TERMS, "to the innermost LABEL a");
        Forge f = new Forge();
        int out = f.then(f.mark(4, 1), f.jump(2), f.mark(4, 2));
        int inner = f.then(f.label(2, out), f.mark(4, 3));
        int other = f.then(f.label(1, inner), f.mark(4, 4));
        f.gives("on behind the inner one of two", 134, f.label(2, other));
        f.counts("one jump", 6, 1);
        f.x.put(4, 0);
        int past = f.then(f.label(0, out), f.mark(4, 3));
        f.gives("past one of another number", 0, f.label(2, past));
        f.holds("past one of another number", 4, 1);
    }

    private static void labelsThatAreBeingWorkedOut() {
        Doc.says(TERMS, "that is being worked out,");
        Forge f = new Forge();
        int jump = f.jump(1);
        int ended = f.label(1, f.num(5));
        f.gives("one that is being worked out", 0, f.label(1, jump));
        f.faults("one that has ended", 5, f.then(ended, jump));
        f.faults("one that has ended by a jump", 5, f.then(f.label(1, jump), jump));
        f.faults("one that is yet to come", 5, f.then(jump, ended));
        f.faults("one that was left by a jump to another", 5, f.then(f.label(0, f.label(1, f.jump(0))), jump));
        f.faults("a fault inside of one", 1, f.label(1, f.bad()));
        f.faults("one of an earlier work", 5, jump);
        f.gives("around one that has ended", 0, f.label(1, f.then(ended, jump, f.num(3))));
    }

    private static void inWhateverEnvironment() {
        Doc.says(TERMS, "in whatever ENVIRONMENT:");
        Forge f = new Forge();
        int jump = f.jump(3);
        int p = f.par(0);
        f.x.procedure(0, f.then(jump, f.mark(4, 1)), 0, 0);
        f.gives("out of a body", 6, f.then(f.label(3, f.call(0)), f.num(6)));
        f.x.procedure(1, f.then(p, f.mark(4, 1)), 1, 1);
        f.gives("out of a parameter by name, and the body", 6, f.then(f.label(3, f.call(1, jump)), f.num(6)));
        f.holds("neither goes on", 4, 0);
        f.x.procedure(2, f.then(f.label(3, p), f.num(7)), 1, 1);
        f.gives("out of a parameter by name, to a label in the body", 7, f.call(2, jump));
        f.gives("that one is the innermost", 7, f.label(3, f.call(2, jump)));
        f.x.procedure(2, f.label(3, f.num(7)), 1, 0);
        f.faults("out of a parameter by value: the body has not begun", 5, f.call(2, jump));
        f.gives("out of a parameter by value", 0, f.label(3, f.call(2, jump)));
        f.x.procedure(3, f.then(p, f.num(8)), 1, 1);
        f.gives("to a label in what was given", 8, f.call(3, f.label(3, f.call(0))));
    }

    private static void itsValueIsZero() {
        Doc.says(TERMS, "its value is 0 then.");
        Forge f = new Forge();
        int left = f.label(0, f.then(f.num(5), f.jump(0), f.num(6)));
        f.gives("a label that was jumped to", 0, left);
        f.gives("and on with it", 3, f.add(left, f.num(3)));
        f.gives("0 chooses c", 8, f.iff(left, f.num(7), f.num(8)));
    }

    private static void labelsValue() {
        Doc.says(TERMS, "17 LABEL a: that of b.");
        Forge f = new Forge();
        for (int a = 0; a < 4; a++) {
            f.gives("label " + a + " without a jump", 2.5, f.label(a, f.num(2.5)));
            f.counts("no jump", 6, 0);
        }
        Check.illegal("label -1", () -> f.label(-1, 0));
        Check.illegal("label 4", () -> f.label(4, 0));
        f.faults("a b that fails", 1, f.label(0, f.bad()));
    }
}
