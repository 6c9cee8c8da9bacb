/** The edges of faults 2 to 5 in the terms (1 and 6 stand with their kinds), and what a fault leaves. */
final class EdgesOfFaults {
    private static final String TERMS = "Terms";
    private static final double BEYOND = Math.nextUp(1e9);

    private EdgesOfFaults() {
    }

    static void run() {
        beyondInSize();
        onlyKinds3To6AndSet();
        setToTheLargest();
        elementNotThere();
        parameterOrLocalNotThere();
        noBody();
        noNodeForAParameter();
        noLabel();
        whatWasSetStays();
    }

    /** Each row: kind, a and b that just fit, their value, and a and b that just do not. */
    private static void beyondInSize() {
        Doc.says(TERMS, "What is worked out by 3 to 6,");
        Doc.says(TERMS, "beyond 1e9 in size is a FAULT 2.");
        double step = BEYOND - 1e9;
        double[][] rows = {
            {3, 1e9, 0, 1e9, 1e9, step}, {3, -1e9, 0, -1e9, -1e9, -step},
            {3, 999999999, 1, 1e9, 999999999, 1 + step}, {3, 1e9, step / 4, 1e9, 1e9, 1e9},
            {4, 1e9, 0, 1e9, 1e9, -step}, {4, -1e9, 0, -1e9, -1e9, step},
            {4, -1, 999999999, -1e9, -1 - step, 999999999}, {4, 1e9, 1e9, 0, 1e9, -1e9},
            {5, 1e9, 1, 1e9, 1e9, Math.nextUp(1.0)}, {5, 1e9, -1, -1e9, -1e9, Math.nextUp(1.0)},
            {5, 31250, 32000, 1e9, 31250, 32000.125}, {5, -1e9, -1, 1e9, -1e9, -1e9},
            {6, 1e9, 1, 1e9, 1e9, Math.nextDown(1.0)}, {6, 1e9, -1, -1e9, -1e9, Math.nextDown(1.0)},
            {6, 125e6, 0.125, 1e9, 125e6 + 1, 0.125}, {6, 0, Double.MIN_VALUE, 0, 1, Double.MIN_VALUE}
        };
        for (double[] r : rows) {
            Forge f = new Forge();
            int n = f.x.make((int) r[0], f.var(4), f.var(5), -1);
            f.x.put(4, r[1]);
            f.x.put(5, r[2]);
            f.gives("kind " + r[0] + " of " + r[1] + " and " + r[2], r[3], n);
            f.x.put(4, r[4]);
            f.x.put(5, r[5]);
            f.faults("kind " + r[0] + " of " + r[4] + " and " + r[5], 2, n);
        }
    }

    /** No other kind looks at the size, and the largest values pass through each of them. */
    private static void onlyKinds3To6AndSet() {
        for (double v : new double[] {1e9, -1e9}) {
            Forge f = new Forge();
            int value = f.var(4);
            int one = f.num(1);
            f.x.put(4, v);
            f.gives("VARIABLE", v, value);
            f.gives("DIV", v, f.div(value, one));
            f.gives("DIV by -1", -v, f.div(value, f.num(-1)));
            f.gives("LESS", v < 1 ? 1 : 0, f.less(value, one));
            f.gives("IF", v, f.iff(value, value, one));
            f.gives("THEN", v, f.then(one, value));
            f.gives("LABEL", v, f.label(0, value));
            f.faults("ELEMENT", 3, f.elem(value, one));
            f.faults("ELEMENT", 3, f.elem(one, value));
            f.x.procedure(0, f.par(0), 1, 0);
            f.x.procedure(1, f.par(0), 1, 1);
            f.gives("by VALUE", v, f.call(0, value));
            f.gives("by NAME", v, f.call(1, value));
        }
    }

    /** Nothing beyond 1e9 can come so far as to be set: what is largest is set, what is larger fails before. */
    private static void setToTheLargest() {
        Doc.says(TERMS, "or set,");
        for (double v : new double[] {1e9, -1e9}) {
            Forge f = new Forge();
            int value = f.var(7);
            int one = f.num(1);
            int tooLarge = f.mul(value, f.num(1.125));
            f.x.put(7, v);
            f.x.procedure(0, f.set(f.local(0), value), 0, 0);
            f.x.procedure(1, f.set(f.par(0), value), 1, 0);
            f.x.procedure(2, f.set(f.par(0), value), 1, 1);
            f.gives("an integer variable", v, f.set(f.var(0), value));
            f.gives("a real variable", v, f.set(f.var(4), value));
            f.gives("an element", v, f.set(f.elem(one, one), value));
            f.gives("a local", v, f.call(0));
            f.gives("a parameter by value", v, f.call(1, one));
            f.gives("a parameter by name", v, f.call(2, f.var(1)));
            f.faults("an integer variable to more", 2, f.set(f.var(0), tooLarge));
            f.faults("a real variable to more", 2, f.set(f.var(4), tooLarge));
            f.faults("an element to more", 2, f.set(f.elem(one, one), tooLarge));
            f.holds("it is not set", 0, v);
            f.holds("it is not set", 4, v);
            Check.due("it is not set", v, () -> f.x.element(1, 1));
        }
        Forge f = new Forge();
        f.x.put(4, 999999999.5);
        f.gives("rounded up to just 1e9", 1e9, f.set(f.var(0), f.var(4)));
    }

    /** Taken and set, by itself and by name: just inside and just outside of each of the four bounds. */
    private static void elementNotThere() {
        Doc.says(TERMS, "An ELEMENT that is not there is a FAULT 3;");
        double[][] there = {{-2, 6}, {1, 6}, {0, 5}, {0, 7}, {-2.5, 4.5}};
        double[][] gone = {{-3, 6}, {2, 6}, {0, 4}, {0, 8}, {-2.5, 7.5}, {1.5, 5}, {1e9, 6}, {0, -1e9}};
        Forge f = new Forge();
        f.x.bounds(-2, 1, 5, 7);
        int element = f.elem(f.var(4), f.var(5));
        int seven = f.num(7);
        f.x.procedure(0, f.par(0), 1, 1);
        f.x.procedure(1, f.set(f.par(0), seven), 1, 1);
        int[] all = {f.set(element, seven), element, f.call(1, element), f.call(0, element)};
        for (double[] t : there) {
            f.x.put(4, t[0]);
            f.x.put(5, t[1]);
            for (int n : all) {
                f.gives("element at " + t[0] + ", " + t[1] + " by node " + n, 7, n);
            }
        }
        for (double[] g : gone) {
            f.x.put(4, g[0]);
            f.x.put(5, g[1]);
            for (int n : all) {
                f.faults("element at " + g[0] + ", " + g[1] + " by node " + n, 3, n);
            }
        }
    }

    private static void parameterOrLocalNotThere() {
        Doc.says(TERMS, "a PARAMETER or LOCAL that is not there,");
        for (int n = 0; n <= 2; n++) {
            for (int a = 0; a <= 1; a++) {
                String what = "parameter " + a + " of " + n;
                Forge f = new Forge();
                int v = f.var(4);
                int call = f.call(0, v, v);
                for (int body : new int[] {f.par(a), f.set(f.par(a), v)}) {
                    for (int names = 0; names <= 3; names++) {
                        f.x.procedure(0, body, n, names);
                        if (a < n) {
                            f.gives(what, 0, call);
                        } else {
                            f.faults(what, 4, call);
                        }
                    }
                }
            }
        }
        Forge f = new Forge();
        f.x.procedure(0, f.add(f.local(0), f.local(1)), 0, 0);
        f.gives("the locals of a call", 0, f.call(0));
        f.faults("local 0 outermost", 4, f.local(0));
        f.faults("local 1 outermost", 4, f.local(1));
    }

    private static void noBody() {
        Doc.says(TERMS, "or a CALL of what has no BODY,");
        Forge f = new Forge();
        int mark = f.mark(4, 1);
        f.x.procedure(1, f.num(5), 2, 0);
        f.gives("one with a body", 5, f.call(1, mark, mark));
        f.x.put(4, 0);
        for (int p : new int[] {0, 2, 3}) {
            f.faults("procedure " + p + " without a body", 4, f.call(p, mark, mark));
            f.holds("nothing of it is worked out", 4, 0);
            f.counts("the call alone", 2, 1);
        }
        f.x.clear();
        f.num(5);
        f.faults("one whose body is gone", 4, f.call(1));
    }

    private static void noNodeForAParameter() {
        Doc.says(TERMS, "or without a NODE for one of its PARAMETERS"
                + " (before anything of it is worked out), a FAULT 4;");
        boolean[][] given = {{false, false}, {true, false}, {false, true}, {true, true}};
        for (int n = 0; n <= 2; n++) {
            for (int names = 0; names <= 3; names++) {
                for (boolean[] g : given) {
                    String what = n + " parameters, names " + names + ", b " + g[0] + ", c " + g[1];
                    Forge f = new Forge();
                    int mark = f.mark(4, 1);
                    f.x.procedure(0, f.num(5), n, names);
                    int call = f.call(0, g[0] ? mark : -1, g[1] ? mark : -1);
                    if ((n < 1 || g[0]) && (n < 2 || g[1])) {
                        f.gives(what, 5, call);
                    } else {
                        f.faults(what, 4, call);
                        f.holds(what, 4, 0);
                        f.counts(what, 2, 1);
                        f.counts(what, 4, 0);
                    }
                }
            }
        }
    }

    private static void noLabel() {
        Doc.says(TERMS, "a JUMP without its LABEL a FAULT 5;");
        for (int a = 0; a < 4; a++) {
            Forge f = new Forge();
            int jump = f.jump(a);
            f.gives("with its label", 0, f.label(a, jump));
            f.faults("without a label", 5, jump);
            f.counts("the jump is worked out", 2, 1);
            f.counts("but comes to no label", 6, 0);
            int others = f.label(a == 0 ? 3 : a - 1, f.label(a == 3 ? 0 : a + 1, jump));
            f.faults("with labels of the numbers beside it", 5, others);
            f.counts("it comes to none of them", 6, 0);
        }
    }

    /** Behind two that are set comes each fault in turn, in the outermost environment and in a call. */
    private static void whatWasSetStays() {
        Doc.says(TERMS, "What was set stays.");
        for (int fault = 1; fault <= 8; fault++) {
            Forge f = new Forge();
            int one = f.num(1);
            int sets = f.then(f.set(f.var(2), f.num(1.5)), f.set(f.var(5), f.num(2.5)),
                    f.set(f.elem(one, one), f.num(3.5)));
            int fails = f.thatFails(fault);
            int all = f.then(sets, fails, f.set(f.var(5), one));
            f.faults("fault " + fault, fault, all);
            stays(f, fault);
            f.x.put(2, 0);
            f.x.put(5, 0);
            f.x.bounds(1, 1, 1, 1);
            f.x.procedure(0, all, 0, 0);
            f.faults("fault " + fault + " in a call", fault, f.call(0));
            stays(f, fault);
        }
    }

    private static void stays(Forge f, int fault) {
        f.holds("behind fault " + fault, 2, 2);
        f.holds("behind fault " + fault, 5, 2.5);
        Check.due("element(1, 1) behind fault " + fault, 3.5, () -> f.x.element(1, 1));
    }
}
