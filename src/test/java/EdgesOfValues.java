/** The edges of kinds 0 to 9 and of rounding, in the terms. */
final class EdgesOfValues {
    private static final String TERMS = "Terms";

    /**
     * What is rounded, and what it is then: just on the half, and the nearest doubles below it. (Around 0.5 itself the
     * sum with 0.5 is not exact in doubles, so a little more is kept away there.)
     */
    private static final double[][] ROUNDED = {
        {0, 0}, {0.5, 1}, {0.499999, 0}, {1, 1}, {1.5, 2}, {Math.nextDown(1.5), 1}, {2.5, 3},
        {Math.nextDown(2.5), 2}, {-0.5, 0}, {-0.500001, -1}, {-1, -1}, {-1.5, -1}, {Math.nextDown(-1.5), -2},
        {-2.5, -2}, {Math.nextDown(-2.5), -3}, {-0.0, 0}
    };

    private EdgesOfValues() {
    }

    static void run() {
        number();
        variable();
        elementInOrder();
        elementIsRounded();
        arithmeticInOrder();
        arithmeticInDoubles();
        overByZero();
        divIsRoundedAndCut();
        divByZero();
        less();
        choice();
        rounding();
        whatIsNotRounded();
    }

    private static void number() {
        Doc.says(TERMS, "0 NUMBER: a / 8.");
        Forge f = new Forge();
        for (int a : new int[] {0, 1, -1, 7, -7, 8, -8, 9, -9, Integer.MAX_VALUE, Integer.MIN_VALUE}) {
            f.gives("number " + a, a / 8.0, f.x.make(0, a, -1, -1));
        }
    }

    private static void variable() {
        Doc.says(TERMS, "1 VARIABLE a.");
        Forge f = new Forge();
        for (int i = 0; i < 8; i++) {
            f.x.put(i, i + 1);
        }
        for (int i = 0; i < 8; i++) {
            f.gives("variable " + i, i + 1, f.var(i));
        }
        Check.illegal("variable -1", () -> f.var(-1));
        Check.illegal("variable 8", () -> f.var(8));
    }

    private static void elementInOrder() {
        Doc.says(TERMS, "2 ELEMENT: row a, column b (NODES, worked out in this order;");
        Forge f = new Forge();
        f.x.bounds(1, 2, 3, 5);
        int element = f.elem(f.then(f.mark(4, 1), f.num(2)), f.then(f.mark(4, 2), f.num(3)));
        f.x.work(f.set(f.elem(f.num(2), f.num(3)), f.num(7)));
        f.gives("row 2, column 3", 7, element);
        f.holds("the row first", 4, 12);
        f.faults("row 3, column 2", 3, f.elem(f.num(3), f.num(2)));
        f.x.put(4, 0);
        f.faults("a row that is not there", 3, f.elem(f.num(9), f.mark(4, 2)));
        f.holds("the column is worked out all the same", 4, 2);
    }

    private static void elementIsRounded() {
        Doc.says(TERMS, "their values rounded).");
        Forge f = new Forge();
        f.x.bounds(-1, 1, 2, 4);
        int element = f.elem(f.var(4), f.var(5));
        double[][] there = {{-1.5, 2}, {Math.nextDown(1.5), 2}, {0, 1.5}, {0, Math.nextDown(4.5)}};
        double[][] gone = {{Math.nextDown(-1.5), 2}, {1.5, 2}, {0, Math.nextDown(1.5)}, {0, 4.5}};
        for (int i = 0; i < 4; i++) {
            f.x.put(4, there[i][0]);
            f.x.put(5, there[i][1]);
            f.gives("element at " + there[i][0] + ", " + there[i][1], 0, element);
            f.x.put(4, gone[i][0]);
            f.x.put(5, gone[i][1]);
            f.faults("element at " + gone[i][0] + ", " + gone[i][1], 3, element);
        }
    }

    private static void arithmeticInOrder() {
        Doc.says(TERMS, "3 ADD, 4 SUB, 5 MUL, 6 OVER: of NODES a and b, worked out in this order,");
        double[] due = {8, 4, 12, 3};
        for (int kind = 3; kind <= 6; kind++) {
            Forge f = new Forge();
            int six = f.then(f.mark(4, 1), f.num(6));
            int two = f.then(f.mark(4, 2), f.num(2));
            f.gives("kind " + kind + " of 6 and 2", due[kind - 3], f.x.make(kind, six, two, -1));
            f.holds("kind " + kind + ": a first", 4, 12);
        }
    }

    private static void arithmeticInDoubles() {
        Doc.says(TERMS, "in doubles;");
        Forge f = new Forge();
        int a = f.var(4);
        int b = f.var(5);
        f.x.put(4, 0.1);
        f.x.put(5, 0.3);
        f.gives("0.1 + 0.3", 0.1 + 0.3, f.add(a, b));
        f.gives("0.1 - 0.3", 0.1 - 0.3, f.sub(a, b));
        f.gives("0.1 * 0.3", 0.1 * 0.3, f.mul(a, b));
        f.gives("0.1 / 0.3", 0.1 / 0.3, f.over(a, b));
        f.x.put(4, 1e9);
        f.x.put(5, -1e-8);
        f.gives("what is too small to be seen in a sum", 1e9, f.add(a, b));
        f.x.put(4, 1e-200);
        f.x.put(5, 1e-200);
        f.gives("a product that is too small for a double", 0, f.mul(a, b));
    }

    private static void overByZero() {
        Doc.says(TERMS, "OVER by 0 is a FAULT 1.");
        Forge f = new Forge();
        int over = f.over(f.var(4), f.var(5));
        for (double by : new double[] {0, -0.0}) {
            f.x.put(5, by);
            for (double v : new double[] {1, 0, -1, 1e9}) {
                f.x.put(4, v);
                f.faults(v + " over " + by, 1, over);
            }
        }
        double[][] beside = {{0, Double.MIN_VALUE, 0}, {Double.MIN_VALUE, Double.MIN_VALUE, 1}, {0, -1, 0},
            {1, 0.125, 8}, {1, -0.125, -8}, {1, 0.375, 1 / 0.375}};
        for (double[] row : beside) {
            f.x.put(4, row[0]);
            f.x.put(5, row[1]);
            f.gives(row[0] + " over " + row[1], row[2], over);
        }
    }

    private static void divIsRoundedAndCut() {
        Doc.says(TERMS, "7 DIV: both rounded, in whole numbers, cut;");
        double[][] rows = {
            {7, 2, 3}, {-7, 2, -3}, {7, -2, -3}, {-7, -2, 3}, {6, 2, 3}, {1, 2, 0}, {-1, 2, 0}, {0, 5, 0},
            {5.5, 2, 3}, {Math.nextDown(5.5), 2, 2}, {-5.5, 1, -5}, {Math.nextDown(-5.5), 1, -6},
            {6, 1.5, 3}, {6, Math.nextDown(1.5), 6}, {6, -1.5, -6}, {6, Math.nextDown(-1.5), -3},
            {1e9, 1, 1e9}, {-1e9, 1, -1e9}, {-1e9, -1, 1e9}, {999999999, 1e9, 0}, {1e9, 1e9, 1}, {999999999.5, 1e9, 1}
        };
        Forge f = new Forge();
        int div = f.div(f.var(4), f.var(5));
        for (double[] r : rows) {
            f.x.put(4, r[0]);
            f.x.put(5, r[1]);
            f.gives(r[0] + " div " + r[1], r[2], div);
        }
        Forge g = new Forge();
        g.gives("div of 7 by 2", 3, g.div(g.then(g.mark(4, 1), g.num(7)), g.then(g.mark(4, 2), g.num(2))));
        g.holds("a first", 4, 12);
    }

    private static void divByZero() {
        Doc.says(TERMS, "by 0 a FAULT 1.");
        Forge f = new Forge();
        int div = f.div(f.var(4), f.var(5));
        f.x.put(4, 3);
        for (double by : new double[] {0, -0.0, 0.499999, -0.5, 0.125}) {
            f.x.put(5, by);
            f.faults("3 div " + by, 1, div);
        }
        double[][] beside = {{0.5, 3}, {-0.500001, -3}, {1, 3}, {-1, -3}};
        for (double[] b : beside) {
            f.x.put(5, b[0]);
            f.gives("3 div " + b[0], b[1], div);
        }
        f.x.put(4, 0);
        f.x.put(5, 0);
        f.faults("0 div 0", 1, div);
    }

    private static void less() {
        Doc.says(TERMS, "8 LESS: 1 if a is less than b, else 0.");
        double[][] rows = {
            {1, 1, 0}, {1, Math.nextUp(1.0), 1}, {Math.nextUp(1.0), 1, 0}, {0, Double.MIN_VALUE, 1},
            {Double.MIN_VALUE, 0, 0}, {-Double.MIN_VALUE, 0, 1}, {-0.0, 0, 0}, {0, -0.0, 0}, {-1e9, 1e9, 1},
            {1e9, -1e9, 0}, {1e9, 1e9, 0}
        };
        Forge f = new Forge();
        int less = f.less(f.var(4), f.var(5));
        for (double[] r : rows) {
            f.x.put(4, r[0]);
            f.x.put(5, r[1]);
            f.gives(r[0] + " less than " + r[1], r[2], less);
        }
    }

    private static void choice() {
        Doc.says(TERMS, "9 IF: that of b if that of a is not 0, else that of c.");
        Forge f = new Forge();
        int choice = f.iff(f.var(4), f.then(f.mark(5, 1), f.num(7)), f.then(f.mark(5, 2), f.num(8)));
        for (double test : new double[] {1, -1, Double.MIN_VALUE, -Double.MIN_VALUE, 0.125, 1e9}) {
            f.x.put(4, test);
            f.x.put(5, 0);
            f.gives("IF of " + test, 7, choice);
            f.holds("IF of " + test + ": b alone", 5, 1);
        }
        for (double test : new double[] {0, -0.0}) {
            f.x.put(4, test);
            f.x.put(5, 0);
            f.gives("IF of " + test, 8, choice);
            f.holds("IF of " + test + ": c alone", 5, 2);
        }
    }

    private static void rounding() {
        Doc.says(TERMS, "To ROUND is to take the greatest whole number not above the value plus 0.5.");
        for (double[] r : ROUNDED) {
            roundedEverywhere(r[0], r[1]);
        }
        NameForge x = new NameForge();
        double[][] large = {{1e9, 1e9}, {999999999.5, 1e9}, {Math.nextDown(999999999.5), 999999999}, {-1e9, -1e9},
            {-999999999.5, -999999999}, {Math.nextDown(-999999999.5), -1e9}};
        for (double[] r : large) {
            x.put(0, r[0]);
            Check.due("an integer variable behind put of " + r[0], r[1], () -> x.variable(0));
        }
    }

    /** At the rounded place stands 1, beside it 0: so ELEMENT and SET of it tell to what they round. */
    private static void roundedEverywhere(double v, double due) {
        String what = v + " rounded ";
        Forge f = new Forge();
        int value = f.var(4);
        int one = f.num(1);
        f.x.put(4, v);
        f.x.put(0, v);
        f.holds(what + "by put", 0, due);
        f.gives(what + "by SET", due, f.set(f.var(1), value));
        f.holds(what + "by SET", 1, due);
        f.gives(what + "by DIV as a", due, f.div(value, one));
        if (due != 0) {
            f.gives(what + "by DIV as b", 60 / due, f.div(f.num(60), value));
        }
        int line = (int) due;
        f.x.bounds(-3, 1, 1, 1);
        if (line > 0) {
            f.x.bounds(0, 3, 1, 1);
        }
        f.gives(what + "as a row that is set", 1, f.set(f.elem(value, one), one));
        Check.due(what + "as a row that is set", 1, () -> f.x.element(line, 1));
        f.gives(what + "as a row", 1, f.elem(value, one));
        f.x.bounds(1, 1, line - 1, line + 1);
        f.gives(what + "as a column that is set", 1, f.set(f.elem(one, value), one));
        Check.due(what + "as a column that is set", 1, () -> f.x.element(1, line));
        f.gives(what + "as a column", 1, f.elem(one, value));
    }

    private static void whatIsNotRounded() {
        Forge f = new Forge();
        int little = f.num(0.125);
        f.x.put(4, 0.125);
        f.gives("a real variable is not rounded", 0.125, f.set(f.var(5), f.var(4)));
        f.gives("a sum is not", 0.25, f.add(little, little));
        f.gives("what is compared is not", 1, f.less(f.num(0), little));
        f.gives("a test of IF is not", 3, f.iff(little, f.num(3), f.num(4)));
        int turn = f.set(f.var(4), f.num(0));
        f.gives("a test of WHILE is not", 0, f.loop(f.var(4), turn));
        f.holds("a test of WHILE is not", 4, 0);
        f.x.procedure(0, f.set(f.local(0), f.par(0)), 1, 0);
        f.gives("a local and a parameter are not", 0.125, f.call(0, little));
    }
}
