/** A NameForge with a short word for each kind of node, and checks of work and of what it counts. */
final class Forge {
    final NameForge x = new NameForge();

    int num(double v) {
        return x.make(0, (int) (v * 8), -1, -1);
    }

    int var(int i) {
        return x.make(1, i, -1, -1);
    }

    int elem(int row, int column) {
        return x.make(2, row, column, -1);
    }

    int add(int a, int b) {
        return x.make(3, a, b, -1);
    }

    int sub(int a, int b) {
        return x.make(4, a, b, -1);
    }

    int mul(int a, int b) {
        return x.make(5, a, b, -1);
    }

    int over(int a, int b) {
        return x.make(6, a, b, -1);
    }

    int div(int a, int b) {
        return x.make(7, a, b, -1);
    }

    int less(int a, int b) {
        return x.make(8, a, b, -1);
    }

    int iff(int a, int b, int c) {
        return x.make(9, a, b, c);
    }

    int par(int a) {
        return x.make(10, a, -1, -1);
    }

    int local(int a) {
        return x.make(11, a, -1, -1);
    }

    int call(int p, int... given) {
        return x.make(12, p, given.length > 0 ? given[0] : -1, given.length > 1 ? given[1] : -1);
    }

    int set(int a, int b) {
        return x.make(13, a, b, -1);
    }

    /** One after another, the value of the last. */
    int then(int first, int... rest) {
        int all = first;
        for (int next : rest) {
            all = x.make(14, all, next, -1);
        }
        return all;
    }

    int loop(int a, int b) {
        return x.make(15, a, b, -1);
    }

    int jump(int a) {
        return x.make(16, a, -1, -1);
    }

    int label(int a, int b) {
        return x.make(17, a, b, -1);
    }

    /** Sets a variable to ten times what it was, plus the digit: the digits tell the order. */
    int mark(int i, int digit) {
        int v = var(i);
        return set(v, add(mul(v, num(10)), num(digit)));
    }

    void gives(String what, double want, int n) {
        Check.due(what, want, () -> x.work(n));
        counts(what, 3, 0);
    }

    void faults(String what, int fault, int n) {
        Check.refused(what, exceptionOf(fault), () -> x.work(n));
        counts(what, 3, fault);
    }

    void counts(String what, int number, int want) {
        Check.due(what + ": count(" + number + ")", want, () -> x.count(number));
    }

    void holds(String what, int i, double want) {
        Check.due(what + ": variable(" + i + ")", want, () -> x.variable(i));
    }

    static Class<?> exceptionOf(int fault) {
        switch (fault) {
            case 1:
            case 2:
                return ArithmeticException.class;
            case 3:
                return IndexOutOfBoundsException.class;
            case 4:
            case 6:
                return UnsupportedOperationException.class;
            case 5:
                return java.util.NoSuchElementException.class;
            default:
                return IllegalStateException.class;
        }
    }
}
