import java.util.Arrays;
import java.util.NoSuchElementException;

/**
 * The document once more, as plainly as the whole of Java allows: an exception for each fault and each jump, and a new
 * object for each environment. Tests compare it with NameForge on calls and programs that nobody chose.
 */
final class Oracle {
    /** Parts a, b, c of each kind: * any number, # a node, ? a node or none, . not looked at, a digit: below that. */
    private static final String[] PARTS = {
        "*..", "8..", "##.", "##.", "##.", "##.", "##.", "##.", "##.", "###",
        "2..", "2..", "4??", "##.", "##.", "##.", "4..", "4#."
    };

    private static final class Fault extends RuntimeException {
        private static final long serialVersionUID = 1;
        final int number;

        Fault(int number) {
            this.number = number;
        }
    }

    private static final class Jump extends RuntimeException {
        private static final long serialVersionUID = 1;
        final int label;

        Jump(int label) {
            this.label = label;
        }
    }

    private static final class Scope {
        final Scope caller;
        final int procedure;
        final int[] given;
        final double[] values;
        final double[] locals = {0, 0};

        Scope(Scope caller, int procedure, int[] given, double[] values) {
            this.caller = caller;
            this.procedure = procedure;
            this.given = given;
            this.values = values;
        }
    }

    private final int[][] nodes = new int[48][];
    private int size = 0;
    private final int[] bodies = {-1, -1, -1, -1};
    private final int[] parameters = new int[4];
    private final int[] names = new int[4];
    private final double[] variables = new double[8];
    private int[] bounds = {1, 1, 1, 1};
    private final double[][] table = new double[19][19];

    /** The answers of count about the latest work, by its number. */
    private final int[] counts = new int[7];
    private final int[] openLabels = new int[4];

    int make(int kind, int a, int b, int c) {
        require(kind >= 0 && kind <= 17);
        int[] parts = {a, b, c};
        for (int i = 0; i < 3; i++) {
            char sort = PARTS[kind].charAt(i);
            require(isPart(parts[i], sort));
            parts[i] = sort == '.' ? -1 : parts[i];
        }
        if (size == 48) {
            throw new IllegalStateException();
        }
        nodes[size] = new int[] {kind, parts[0], parts[1], parts[2]};
        return size++;
    }

    private boolean isPart(int part, char sort) {
        switch (sort) {
            case '*':
            case '.':
                return true;
            case '#':
                return isNode(part);
            case '?':
                return part == -1 || isNode(part);
            default:
                return part >= 0 && part < sort - '0';
        }
    }

    private boolean isNode(int n) {
        return n >= 0 && n < size;
    }

    private static void require(boolean isAsSaid) {
        if (!isAsSaid) {
            throw new IllegalArgumentException();
        }
    }

    void procedure(int p, int body, int n, int byName) {
        require(p >= 0 && p <= 3 && isNode(body) && n >= 0 && n <= 2 && byName >= 0 && byName <= 3);
        bodies[p] = body;
        parameters[p] = n;
        names[p] = byName;
    }

    int bounds(int... ends) {
        for (int end : ends) {
            require(end >= -9 && end <= 9);
        }
        require(ends[0] <= ends[1] && ends[1] <= ends[0] + 4 && ends[2] <= ends[3] && ends[3] <= ends[2] + 4);
        bounds = ends;
        for (double[] row : table) {
            Arrays.fill(row, 0);
        }
        return elements();
    }

    private int elements() {
        return (bounds[1] - bounds[0] + 1) * (bounds[3] - bounds[2] + 1);
    }

    double put(int i, double v) {
        double was = variable(i);
        require(Math.abs(v) <= 1e9);
        variables[i] = i <= 3 ? Math.floor(v + 0.5) : v;
        return was;
    }

    double work(int n) {
        require(isNode(n));
        Arrays.fill(counts, 0);
        Arrays.fill(openLabels, 0);
        try {
            return value(n, null, 1, 0);
        } catch (Fault fault) {
            counts[3] = fault.number;
        }
        switch (counts[3]) {
            case 1:
            case 2:
                throw new ArithmeticException();
            case 3:
                throw new IndexOutOfBoundsException();
            case 5:
                throw new NoSuchElementException();
            case 7:
            case 8:
                throw new IllegalStateException();
            default:
                throw new UnsupportedOperationException();
        }
    }

    double variable(int i) {
        require(i >= 0 && i <= 7);
        return variables[i];
    }

    double element(int i, int j) {
        if (i < bounds[0] || i > bounds[1] || j < bounds[2] || j > bounds[3]) {
            throw new IndexOutOfBoundsException();
        }
        return table[i + 9][j + 9];
    }

    int node(int n, int what) {
        require(what >= 0 && what <= 3);
        if (!isNode(n)) {
            throw new IndexOutOfBoundsException();
        }
        return nodes[n][what];
    }

    int clear() {
        int were = size;
        size = 0;
        Arrays.fill(bodies, -1);
        return were;
    }

    int count(int what) {
        require(what >= 0 && what <= 6);
        return what == 0 ? size : what == 1 ? elements() : counts[what];
    }

    /** All that count, variable and element can tell is the same; takes 40 calls at most. */
    void compareState(String what, NameForge x) {
        for (int i = 0; i <= 6; i++) {
            int asked = i;
            Check.same(what + ": count(" + i + ")", () -> count(asked), () -> x.count(asked));
        }
        for (int i = 0; i <= 7; i++) {
            int asked = i;
            Check.same(what + ": variable(" + i + ")", () -> variable(asked), () -> x.variable(asked));
        }
        for (int row = bounds[0]; row <= bounds[1]; row++) {
            for (int column = bounds[2]; column <= bounds[3]; column++) {
                int i = row;
                int j = column;
                Check.same(what + ": element(" + i + ", " + j + ")", () -> element(i, j), () -> x.element(i, j));
            }
        }
    }

    /** All that node can tell is the same; takes 196 calls at most. */
    void compareNodes(String what, NameForge x) {
        for (int n = 0; n <= size; n++) {
            for (int asked = 0; asked <= 3; asked++) {
                int i = n;
                int part = asked;
                Check.same(what + ": node(" + i + ", " + part + ")", () -> node(i, part), () -> x.node(i, part));
            }
        }
    }

    private double value(int n, Scope s, int depth, int open) {
        if (depth > 80) {
            throw new Fault(7);
        }
        if (counts[2] >= 300) {
            throw new Fault(8);
        }
        counts[2]++;
        int a = nodes[n][1];
        int b = nodes[n][2];
        int c = nodes[n][3];
        switch (nodes[n][0]) {
            case 0:
                return a / 8.0;
            case 1:
                return variables[a];
            case 2: {
                double row = value(a, s, depth + 1, open);
                double column = value(b, s, depth + 1, open);
                return table[rowAt(row)][columnAt(column)];
            }
            case 3:
                return small(value(a, s, depth + 1, open) + value(b, s, depth + 1, open));
            case 4:
                return small(value(a, s, depth + 1, open) - value(b, s, depth + 1, open));
            case 5:
                return small(value(a, s, depth + 1, open) * value(b, s, depth + 1, open));
            case 6: {
                double top = value(a, s, depth + 1, open);
                return small(top / notZero(value(b, s, depth + 1, open)));
            }
            case 7: {
                double top = Math.floor(value(a, s, depth + 1, open) + 0.5);
                double below = notZero(Math.floor(value(b, s, depth + 1, open) + 0.5));
                return (long) top / (long) below;
            }
            case 8:
                return value(a, s, depth + 1, open) < value(b, s, depth + 1, open) ? 1 : 0;
            case 9:
                return value(value(a, s, depth + 1, open) != 0 ? b : c, s, depth + 1, open);
            case 10:
                check(s, a);
                return isByName(s, a) ? value(s.given[a], s.caller, depth + 1, opened(open)) : s.values[a];
            case 11:
                return there(s).locals[a];
            case 12:
                return call(a, new int[] {b, c}, s, depth, open);
            case 13: {
                int kind = nodes[a][0];
                if (kind != 1 && kind != 2 && kind != 10 && kind != 11) {
                    throw new Fault(6);
                }
                return become(a, small(value(b, s, depth + 1, open)), s, depth, open);
            }
            case 14:
                value(a, s, depth + 1, open);
                return value(b, s, depth + 1, open);
            case 15:
                while (value(a, s, depth + 1, open) != 0) {
                    value(b, s, depth + 1, open);
                }
                return 0;
            case 16:
                if (openLabels[a] == 0) {
                    throw new Fault(5);
                }
                throw new Jump(a);
            default:
                return label(a, b, s, depth, open);
        }
    }

    private double call(int p, int[] given, Scope s, int depth, int open) {
        if (bodies[p] < 0) {
            throw new Fault(4);
        }
        for (int i = 0; i < parameters[p]; i++) {
            if (given[i] < 0) {
                throw new Fault(4);
            }
        }
        double[] values = new double[2];
        for (int i = 0; i < parameters[p]; i++) {
            if ((names[p] & 1 << i) == 0) {
                values[i] = value(given[i], s, depth + 1, open);
            }
        }
        int inside = opened(open);
        counts[4]++;
        return value(bodies[p], new Scope(s, p, given, values), depth + 1, inside);
    }

    private double become(int n, double v, Scope s, int depth, int open) {
        int a = nodes[n][1];
        switch (nodes[n][0]) {
            case 1:
                return variables[a] = a < 4 ? Math.floor(v + 0.5) : v;
            case 2: {
                double row = value(a, s, depth + 1, open);
                double column = value(nodes[n][2], s, depth + 1, open);
                return table[rowAt(row)][columnAt(column)] = v;
            }
            case 11:
                return there(s).locals[a] = v;
            case 10:
                check(s, a);
                return isByName(s, a) ? become(s.given[a], v, s.caller, depth, opened(open)) : (s.values[a] = v);
            default:
                throw new Fault(6);
        }
    }

    private double label(int number, int inside, Scope s, int depth, int open) {
        openLabels[number]++;
        try {
            return value(inside, s, depth + 1, open);
        } catch (Jump jump) {
            if (jump.label != number) {
                throw jump;
            }
            counts[6]++;
            return 0;
        } finally {
            openLabels[number]--;
        }
    }

    private int opened(int open) {
        if (open == 8) {
            throw new Fault(7);
        }
        counts[5] = Math.max(counts[5], open + 1);
        return open + 1;
    }

    private void check(Scope s, int a) {
        if (a >= parameters[there(s).procedure]) {
            throw new Fault(4);
        }
    }

    private boolean isByName(Scope s, int a) {
        return (names[s.procedure] & 1 << a) != 0;
    }

    private static Scope there(Scope s) {
        if (s == null) {
            throw new Fault(4);
        }
        return s;
    }

    private int rowAt(double v) {
        return lineAt(v, bounds[0], bounds[1]);
    }

    private int columnAt(double v) {
        return lineAt(v, bounds[2], bounds[3]);
    }

    private static int lineAt(double v, int low, int high) {
        double line = Math.floor(v + 0.5);
        if (line < low || line > high) {
            throw new Fault(3);
        }
        return (int) line + 9;
    }

    private static double notZero(double v) {
        if (v == 0) {
            throw new Fault(1);
        }
        return v;
    }

    private static double small(double v) {
        if (Math.abs(v) > 1e9) {
            throw new Fault(2);
        }
        return v;
    }
}
