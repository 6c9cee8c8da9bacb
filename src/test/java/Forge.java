/** A NameForge with a short word for each kind of node, and checks of work and of what it counts. */
final class Forge {
    final NameForge x = new NameForge();

    int num(double v) {
        return x.make(0, (int) (v * 8), -1, -1);
    }

    int var(int i) {
        return x.make(1, i, -1, -1);
    }

    int elem(int row, int column) {
        return x.make(2, row, column, -1);
    }

    int add(int a, int b) {
        return x.make(3, a, b, -1);
    }

    int sub(int a, int b) {
        return x.make(4, a, b, -1);
    }

    int mul(int a, int b) {
        return x.make(5, a, b, -1);
    }

    int over(int a, int b) {
        return x.make(6, a, b, -1);
    }

    int div(int a, int b) {
        return x.make(7, a, b, -1);
    }

    int less(int a, int b) {
        return x.make(8, a, b, -1);
    }

    int iff(int a, int b, int c) {
        return x.make(9, a, b, c);
    }

    int par(int a) {
        return x.make(10, a, -1, -1);
    }

    int local(int a) {
        return x.make(11, a, -1, -1);
    }

    int call(int p, int... given) {
        return x.make(12, p, given.length > 0 ? given[0] : -1, given.length > 1 ? given[1] : -1);
    }

    int set(int a, int b) {
        return x.make(13, a, b, -1);
    }

    /** One after another, the value of the last. */
    int then(int first, int... rest) {
        int all = first;
        for (int next : rest) {
            all = x.make(14, all, next, -1);
        }
        return all;
    }

    int loop(int a, int b) {
        return x.make(15, a, b, -1);
    }

    int jump(int a) {
        return x.make(16, a, -1, -1);
    }

    int label(int a, int b) {
        return x.make(17, a, b, -1);
    }

    /** Sets a variable to ten times what it was, plus the digit: the digits tell the order. */
    int mark(int i, int digit) {
        int v = var(i);
        return set(v, add(mul(v, num(10)), num(digit)));
    }

    /**
     * So many nodes one in another, in four environments, and the given one inside of them: procedure 0 is labels
     * around its parameter by name, and a call of it is given such a call again. (Takes half as many nodes.)
     */
    int under(int nodes, int given) {
        int chain = par(0);
        for (int i = 0; i < nodes / 2 - 2; i++) {
            chain = label(3, chain);
        }
        x.procedure(0, chain, 1, 1);
        int all = underAgain(given);
        return nodes % 2 == 0 ? all : label(3, all);
    }

    /** The same once more, for an even number of nodes, when procedure 0 is made already. */
    int underAgain(int given) {
        return call(0, call(0, given));
    }

    /** Always fails, with fault 1. */
    int bad() {
        int zero = num(0);
        return over(zero, zero);
    }

    /** A node that fails with this fault; for fault 7, procedure 3 becomes one that calls itself for ever. */
    int thatFails(int fault) {
        int zero = num(0);
        switch (fault) {
            case 1:
                return over(zero, zero);
            case 2:
                return mul(num(100000), num(100000));
            case 3:
                return elem(num(-9), zero);
            case 4:
                return call(2);
            case 5:
                return jump(3);
            case 6:
                return set(zero, zero);
            case 7: {
                int again = call(3);
                x.procedure(3, again, 0, 0);
                return again;
            }
            default:
                return loop(num(1), zero);
        }
    }

    void gives(String what, double want, int n) {
        Check.due(what, want, () -> x.work(n));
        counts(what, 3, 0);
    }

    void faults(String what, int fault, int n) {
        Check.refused(what, exceptionOf(fault), () -> x.work(n));
        counts(what, 3, fault);
    }

    void counts(String what, int number, int want) {
        Check.due(what + ": count(" + number + ")", want, () -> x.count(number));
    }

    void holds(String what, int i, double want) {
        Check.due(what + ": variable(" + i + ")", want, () -> x.variable(i));
    }

    /** Which of its parts a, b, c (0, 1, 2) are nodes that must be there; those of CALL may be none as well. */
    static int[] nodesAmongPartsOf(int kind) {
        switch (kind) {
            case 0:
            case 1:
            case 10:
            case 11:
            case 12:
            case 16:
                return new int[] {};
            case 9:
                return new int[] {0, 1, 2};
            case 17:
                return new int[] {1};
            default:
                return new int[] {0, 1};
        }
    }

    static Class<?> exceptionOf(int fault) {
        switch (fault) {
            case 1:
            case 2:
                return ArithmeticException.class;
            case 3:
                return IndexOutOfBoundsException.class;
            case 4:
            case 6:
                return UnsupportedOperationException.class;
            case 5:
                return java.util.NoSuchElementException.class;
            default:
                return IllegalStateException.class;
        }
    }
}
