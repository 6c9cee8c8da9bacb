/**
 * The document's language once more, as plainly as the whole of Java allows: an exception for each fault and each
 * jump, and a new object for each environment. Tests compare it with NameForge on programs that nobody chose.
 */
final class Oracle {
    static final class Fault extends RuntimeException {
        private static final long serialVersionUID = 1;
        final int number;

        Fault(int number) {
            this.number = number;
        }
    }

    static final class Jump extends RuntimeException {
        private static final long serialVersionUID = 1;
        final int label;

        Jump(int label) {
            this.label = label;
        }
    }

    static final class Scope {
        final Scope caller;
        final int procedure;
        final int[] given;
        final double[] values;
        final double[] locals = {0, 0};

        Scope(Scope caller, int procedure, int[] given, double[] values) {
            this.caller = caller;
            this.procedure = procedure;
            this.given = given;
            this.values = values;
        }
    }

    final int[][] nodes = new int[48][];
    int size = 0;
    final int[] bodies = {-1, -1, -1, -1};
    final int[] parameters = new int[4];
    final int[] names = new int[4];
    final double[] variables = new double[8];
    int[] bounds = {1, 1, 1, 1};
    final double[][] table = new double[19][19];

    /** The answers of count about the latest work, by its number. */
    final int[] counts = new int[7];
    private final int[] openLabels = new int[4];

    double work(int n) {
        java.util.Arrays.fill(counts, 0);
        java.util.Arrays.fill(openLabels, 0);
        try {
            return value(n, null, 1, 0);
        } catch (Fault fault) {
            counts[3] = fault.number;
            return 0;
        }
    }

    private double value(int n, Scope s, int depth, int open) {
        if (depth > 80) {
            throw new Fault(7);
        }
        if (counts[2] >= 300) {
            throw new Fault(8);
        }
        counts[2]++;
        int a = nodes[n][1];
        int b = nodes[n][2];
        int c = nodes[n][3];
        switch (nodes[n][0]) {
            case 0:
                return a / 8.0;
            case 1:
                return variables[a];
            case 2: {
                double row = value(a, s, depth + 1, open);
                double column = value(b, s, depth + 1, open);
                return table[rowAt(row)][columnAt(column)];
            }
            case 3:
                return small(value(a, s, depth + 1, open) + value(b, s, depth + 1, open));
            case 4:
                return small(value(a, s, depth + 1, open) - value(b, s, depth + 1, open));
            case 5:
                return small(value(a, s, depth + 1, open) * value(b, s, depth + 1, open));
            case 6: {
                double top = value(a, s, depth + 1, open);
                return small(top / notZero(value(b, s, depth + 1, open)));
            }
            case 7: {
                double top = Math.floor(value(a, s, depth + 1, open) + 0.5);
                double below = notZero(Math.floor(value(b, s, depth + 1, open) + 0.5));
                return (long) top / (long) below;
            }
            case 8:
                return value(a, s, depth + 1, open) < value(b, s, depth + 1, open) ? 1 : 0;
            case 9:
                return value(value(a, s, depth + 1, open) != 0 ? b : c, s, depth + 1, open);
            case 10:
                check(s, a);
                return isByName(s, a) ? value(s.given[a], s.caller, depth + 1, opened(open)) : s.values[a];
            case 11:
                return there(s).locals[a];
            case 12:
                return call(a, new int[] {b, c}, s, depth, open);
            case 13: {
                int kind = nodes[a][0];
                if (kind != 1 && kind != 2 && kind != 10 && kind != 11) {
                    throw new Fault(6);
                }
                return become(a, small(value(b, s, depth + 1, open)), s, depth, open);
            }
            case 14:
                value(a, s, depth + 1, open);
                return value(b, s, depth + 1, open);
            case 15:
                while (value(a, s, depth + 1, open) != 0) {
                    value(b, s, depth + 1, open);
                }
                return 0;
            case 16:
                if (openLabels[a] == 0) {
                    throw new Fault(5);
                }
                throw new Jump(a);
            default:
                return label(a, b, s, depth, open);
        }
    }

    private double call(int p, int[] given, Scope s, int depth, int open) {
        if (bodies[p] < 0) {
            throw new Fault(4);
        }
        for (int i = 0; i < parameters[p]; i++) {
            if (given[i] < 0) {
                throw new Fault(4);
            }
        }
        double[] values = new double[2];
        for (int i = 0; i < parameters[p]; i++) {
            if ((names[p] & 1 << i) == 0) {
                values[i] = value(given[i], s, depth + 1, open);
            }
        }
        int inside = opened(open);
        counts[4]++;
        return value(bodies[p], new Scope(s, p, given, values), depth + 1, inside);
    }

    private double become(int n, double v, Scope s, int depth, int open) {
        int a = nodes[n][1];
        switch (nodes[n][0]) {
            case 1:
                return variables[a] = a < 4 ? Math.floor(v + 0.5) : v;
            case 2: {
                double row = value(a, s, depth + 1, open);
                double column = value(nodes[n][2], s, depth + 1, open);
                return table[rowAt(row)][columnAt(column)] = v;
            }
            case 11:
                return there(s).locals[a] = v;
            case 10:
                check(s, a);
                return isByName(s, a) ? become(s.given[a], v, s.caller, depth, opened(open)) : (s.values[a] = v);
            default:
                throw new Fault(6);
        }
    }

    private double label(int number, int inside, Scope s, int depth, int open) {
        openLabels[number]++;
        try {
            return value(inside, s, depth + 1, open);
        } catch (Jump jump) {
            if (jump.label != number) {
                throw jump;
            }
            counts[6]++;
            return 0;
        } finally {
            openLabels[number]--;
        }
    }

    private int opened(int open) {
        if (open == 8) {
            throw new Fault(7);
        }
        counts[5] = Math.max(counts[5], open + 1);
        return open + 1;
    }

    private void check(Scope s, int a) {
        if (a >= parameters[there(s).procedure]) {
            throw new Fault(4);
        }
    }

    private boolean isByName(Scope s, int a) {
        return (names[s.procedure] & 1 << a) != 0;
    }

    private static Scope there(Scope s) {
        if (s == null) {
            throw new Fault(4);
        }
        return s;
    }

    private int rowAt(double v) {
        return lineAt(v, bounds[0], bounds[1]);
    }

    private int columnAt(double v) {
        return lineAt(v, bounds[2], bounds[3]);
    }

    private static int lineAt(double v, int low, int high) {
        double line = Math.floor(v + 0.5);
        if (line < low || line > high) {
            throw new Fault(3);
        }
        return (int) line + 9;
    }

    private static double notZero(double v) {
        if (v == 0) {
            throw new Fault(1);
        }
        return v;
    }

    private static double small(double v) {
        if (Math.abs(v) > 1e9) {
            throw new Fault(2);
        }
        return v;
    }
}
