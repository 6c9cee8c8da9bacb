import java.util.Arrays;
import java.util.NoSuchElementException;

/**
 * A small language as Algol 60 was, built node by node: integer and real variables, a table with
 * bounds, procedures with locals and with parameters by value or by name, loops and jumps.
 */
public final class NameForge {
    private static final int NUMBER = 0;
    private static final int VARIABLE = 1;
    private static final int ELEMENT = 2;
    private static final int ADD = 3;
    private static final int SUB = 4;
    private static final int MUL = 5;
    private static final int OVER = 6;
    private static final int DIV = 7;
    private static final int IF = 9;
    private static final int PARAMETER = 10;
    private static final int LOCAL = 11;
    private static final int CALL = 12;
    private static final int SET = 13;
    private static final int THEN = 14;
    private static final int WHILE = 15;
    private static final int JUMP = 16;
    private static final int LABEL = 17;
    private static final int KINDS = 18;

    private static final int BY_ZERO = 1;
    private static final int TOO_LARGE = 2;
    private static final int NO_ELEMENT = 3;
    private static final int NOT_THERE = 4;
    private static final int NO_LABEL = 5;
    private static final int NOT_TO_BE_SET = 6;
    private static final int TOO_DEEP = 7;
    private static final int TOO_LONG = 8;

    private static final int MOST_NODES = 48;
    private static final int MOST_WORKED = 300;
    private static final int MOST_NESTED = 80;
    private static final int MOST_ENVIRONMENTS = 8;
    private static final int MOST_IN_SIZE = 1000000000;
    private static final int VARIABLES = 8;
    private static final int INTEGERS = 4;
    private static final int PROCEDURES = 4;
    private static final int LABELS = 4;
    private static final int PARAMETERS = 2;
    private static final int LOCALS = 2;
    private static final int FARTHEST_BOUND = 9;
    private static final int MOST_LINES = 5;

    private static final int NONE = -1;

    private final Program program;
    private final Store store;
    private final Worker worker;

    public NameForge() {
        program = new Program();
        store = new Store();
        worker = new Worker(program, store);
    }

    public int make(int kind, int a, int b, int c) throws IllegalArgumentException, IllegalStateException {
        if (!program.takes(kind, a, b, c)) {
            throw new IllegalArgumentException("no such kind, or a part that does not fit it");
        }
        if (program.size == MOST_NODES) {
            throw new IllegalStateException("no room for another node");
        }
        return program.add(kind, a, b, c);
    }

    public void procedure(int p, int body, int n, int names) throws IllegalArgumentException {
        if (!isBelow(p, PROCEDURES) || !program.has(body) || !isBelow(n, PARAMETERS + 1)
                || !isBelow(names, 1 << PARAMETERS)) {
            throw new IllegalArgumentException("no such procedure, body, number of parameters or names");
        }
        program.define(p, body, n, names);
    }

    public int bounds(int low, int high, int low2, int high2) throws IllegalArgumentException {
        if (!areBounds(low, high) || !areBounds(low2, high2)) {
            throw new IllegalArgumentException("no bounds of a table");
        }
        store.lay(low, high, low2, high2);
        return store.size();
    }

    public double put(int i, double v) throws IllegalArgumentException {
        if (!isBelow(i, VARIABLES) || !isWithinSize(v)) {
            throw new IllegalArgumentException("no such variable, or no value for one");
        }
        double before = store.variables[i];
        store.assign(i, v);
        return before;
    }

    public double work(int n) throws IllegalArgumentException, ArithmeticException, IndexOutOfBoundsException,
            UnsupportedOperationException, NoSuchElementException, IllegalStateException {
        if (!program.has(n)) {
            throw new IllegalArgumentException("no such node");
        }
        double result = worker.start(n);
        throwFault(worker.fault);
        return result;
    }

    public double variable(int i) throws IllegalArgumentException {
        if (!isBelow(i, VARIABLES)) {
            throw new IllegalArgumentException("no such variable");
        }
        return store.variables[i];
    }

    public double element(int i, int j) throws IndexOutOfBoundsException {
        if (!store.holds(i, j)) {
            throw new IndexOutOfBoundsException("no such element");
        }
        return store.elements[store.place(i, j)];
    }

    public int node(int n, int what) throws IllegalArgumentException, IndexOutOfBoundsException {
        if (!isBelow(what, 4)) {
            throw new IllegalArgumentException("a node has nothing of this number");
        }
        if (!program.has(n)) {
            throw new IndexOutOfBoundsException("no such node");
        }
        switch (what) {
            case 0:
                return program.kinds[n];
            case 1:
                return program.as[n];
            case 2:
                return program.bs[n];
            default:
                return program.cs[n];
        }
    }

    public int clear() {
        int before = program.size;
        program.empty();
        return before;
    }

    public int count(int what) throws IllegalArgumentException {
        switch (what) {
            case 0:
                return program.size;
            case 1:
                return store.size();
            case 2:
                return worker.worked;
            case 3:
                return worker.fault;
            case 4:
                return worker.bodiesBegun;
            case 5:
                return worker.mostEnvironments;
            case 6:
                return worker.jumpsArrived;
            default:
                throw new IllegalArgumentException("nothing of this number is counted");
        }
    }

    private static void throwFault(int fault) {
        switch (fault) {
            case BY_ZERO:
                throw new ArithmeticException("divided by 0");
            case TOO_LARGE:
                throw new ArithmeticException("beyond 1e9 in size");
            case NO_ELEMENT:
                throw new IndexOutOfBoundsException("an element that is not there");
            case NOT_THERE:
                throw new UnsupportedOperationException("a parameter, local, body or argument that is not there");
            case NO_LABEL:
                throw new NoSuchElementException("a jump without its label");
            case NOT_TO_BE_SET:
                throw new UnsupportedOperationException("a node that can't be set");
            case TOO_DEEP:
                throw new IllegalStateException("too many environments or nodes one in another");
            case TOO_LONG:
                throw new IllegalStateException("too many nodes worked out");
            default:
                break;
        }
    }

    private static boolean isBelow(int number, int end) {
        return number >= 0 && number < end;
    }

    private static boolean areBounds(int low, int high) {
        return low >= -FARTHEST_BOUND && high <= FARTHEST_BOUND && low <= high && high - low < MOST_LINES;
    }

    // Written so that what is no number is refused too: all comparisons with it are false.
    private static boolean isWithinSize(double v) {
        return v >= -MOST_IN_SIZE && v <= MOST_IN_SIZE;
    }

    private static long rounded(double v) {
        double raised = v + 0.5;
        long cut = (long) raised;
        return cut > raised ? cut - 1 : cut;
    }

    /** The nodes and the procedures: what is to be worked out. */
    private static final class Program {
        // What a part of a node is; a number above 0 stands for one of 0 .. that number - 1.
        private static final int UNSEEN = 0;
        private static final int ANY = -1;
        private static final int A_NODE = -2;
        private static final int A_NODE_OR_NONE = -3;

        private static final int[] SORTS_OF_A = {
            ANY, VARIABLES, A_NODE, A_NODE, A_NODE, A_NODE, A_NODE, A_NODE, A_NODE, A_NODE,
            PARAMETERS, LOCALS, PROCEDURES, A_NODE, A_NODE, A_NODE, LABELS, LABELS
        };
        private static final int[] SORTS_OF_B = {
            UNSEEN, UNSEEN, A_NODE, A_NODE, A_NODE, A_NODE, A_NODE, A_NODE, A_NODE, A_NODE,
            UNSEEN, UNSEEN, A_NODE_OR_NONE, A_NODE, A_NODE, A_NODE, UNSEEN, A_NODE
        };
        private static final int[] SORTS_OF_C = {
            UNSEEN, UNSEEN, UNSEEN, UNSEEN, UNSEEN, UNSEEN, UNSEEN, UNSEEN, UNSEEN, A_NODE,
            UNSEEN, UNSEEN, A_NODE_OR_NONE, UNSEEN, UNSEEN, UNSEEN, UNSEEN, UNSEEN
        };

        final int[] kinds = new int[MOST_NODES];
        final int[] as = new int[MOST_NODES];
        final int[] bs = new int[MOST_NODES];
        final int[] cs = new int[MOST_NODES];
        int size;
        final int[] bodies = new int[PROCEDURES];
        final int[] parameters = new int[PROCEDURES];
        final int[] names = new int[PROCEDURES];

        Program() {
            Arrays.fill(bodies, NONE);
        }

        boolean has(int n) {
            return isBelow(n, size);
        }

        boolean takes(int kind, int a, int b, int c) {
            return isBelow(kind, KINDS) && fits(a, SORTS_OF_A[kind]) && fits(b, SORTS_OF_B[kind])
                    && fits(c, SORTS_OF_C[kind]);
        }

        private boolean fits(int part, int sort) {
            switch (sort) {
                case UNSEEN:
                case ANY:
                    return true;
                case A_NODE:
                    return has(part);
                case A_NODE_OR_NONE:
                    return part == NONE || has(part);
                default:
                    return isBelow(part, sort);
            }
        }

        int add(int kind, int a, int b, int c) {
            kinds[size] = kind;
            as[size] = a;
            bs[size] = SORTS_OF_B[kind] == UNSEEN ? NONE : b;
            cs[size] = SORTS_OF_C[kind] == UNSEEN ? NONE : c;
            size++;
            return size - 1;
        }

        void define(int p, int body, int n, int byName) {
            bodies[p] = body;
            parameters[p] = n;
            names[p] = byName;
        }

        void empty() {
            size = 0;
            Arrays.fill(bodies, NONE);
        }

        boolean canBeSet(int n) {
            int kind = kinds[n];
            return kind == VARIABLE || kind == ELEMENT || kind == LOCAL || kind == PARAMETER;
        }

        boolean canBeCalled(int n) {
            int p = as[n];
            return bodies[p] != NONE && (parameters[p] < 1 || bs[n] != NONE) && (parameters[p] < 2 || cs[n] != NONE);
        }

        boolean isByValue(int p, int parameter) {
            return parameter < parameters[p] && (names[p] >> parameter & 1) == 0;
        }
    }

    /** The variables and the table: what stays from one work to the next. */
    private static final class Store {
        final double[] variables = new double[VARIABLES];
        final double[] elements = new double[MOST_LINES * MOST_LINES];
        private int firstRow = 1;
        private int lastRow = 1;
        private int firstColumn = 1;
        private int lastColumn = 1;

        void lay(int low, int high, int low2, int high2) {
            firstRow = low;
            lastRow = high;
            firstColumn = low2;
            lastColumn = high2;
            Arrays.fill(elements, 0);
        }

        int size() {
            return (lastRow - firstRow + 1) * (lastColumn - firstColumn + 1);
        }

        boolean holds(long row, long column) {
            return row >= firstRow && row <= lastRow && column >= firstColumn && column <= lastColumn;
        }

        int place(long row, long column) {
            return (int) (row - firstRow) * MOST_LINES + (int) (column - firstColumn);
        }

        double assign(int i, double v) {
            variables[i] = i < INTEGERS ? rounded(v) : v;
            return variables[i];
        }
    }

    /** What a body sees of its call; the outermost one has no caller, and so no parameters and no locals. */
    private static final class Environment {
        Environment caller;
        final int[] given = new int[PARAMETERS];
        final double[] values = new double[PARAMETERS];
        final double[] locals = new double[LOCALS];
        private int parameters;
        private int names;

        void begin(Environment from, int n, int byName) {
            caller = from;
            parameters = n;
            names = byName;
            Arrays.fill(locals, 0);
        }

        void give(int parameter, int n, double v) {
            given[parameter] = n;
            values[parameter] = v;
        }

        boolean hasParameter(int a) {
            return caller != null && a < parameters;
        }

        boolean hasLocals() {
            return caller != null;
        }

        boolean isByName(int a) {
            return (names >> a & 1) == 1;
        }
    }

    /**
     * Works nodes out. A fault or a jump leaves all that is going on: it is noted in a field, and every method
     * returns at once (its answer is not used then) until a label takes the jump or the whole work has ended.
     */
    private static final class Worker {
        int worked;
        int fault;
        int bodiesBegun;
        int mostEnvironments;
        int jumpsArrived;
        private final Program program;
        private final Store store;
        private final Environment outermost = new Environment();
        // Calls end in the order opposite to that in which they begin, so their environments are used again.
        private final Environment[] environments = new Environment[MOST_ENVIRONMENTS];
        private final int[] openLabels = new int[LABELS];
        private int openCalls;
        private int openEnvironments;
        private int jumpingTo = NONE;

        Worker(Program program, Store store) {
            this.program = program;
            this.store = store;
            for (int i = 0; i < MOST_ENVIRONMENTS; i++) {
                environments[i] = new Environment();
            }
        }

        double start(int n) {
            worked = 0;
            fault = 0;
            bodiesBegun = 0;
            mostEnvironments = 0;
            jumpsArrived = 0;
            return value(n, outermost, 1);
        }

        private boolean leaving() {
            return fault != 0 || jumpingTo != NONE;
        }

        private double fail(int number) {
            fault = number;
            return 0;
        }

        private boolean mayBegin(int depth) {
            if (depth > MOST_NESTED) {
                fault = TOO_DEEP;
                return false;
            }
            if (worked == MOST_WORKED) {
                fault = TOO_LONG;
                return false;
            }
            worked++;
            return true;
        }

        private boolean mayEnter() {
            if (openEnvironments == MOST_ENVIRONMENTS) {
                fault = TOO_DEEP;
                return false;
            }
            openEnvironments++;
            mostEnvironments = Math.max(mostEnvironments, openEnvironments);
            return true;
        }

        private double value(int n, Environment here, int depth) {
            if (!mayBegin(depth)) {
                return 0;
            }
            int a = program.as[n];
            switch (program.kinds[n]) {
                case NUMBER:
                    return a / 8.0;
                case VARIABLE:
                    return store.variables[a];
                case IF:
                    return choice(n, here, depth);
                case PARAMETER:
                    return parameter(a, here, depth);
                case LOCAL:
                    return here.hasLocals() ? here.locals[a] : fail(NOT_THERE);
                case CALL:
                    return call(n, here, depth);
                case SET:
                    return set(n, here, depth);
                case THEN:
                    return sequence(n, here, depth);
                case WHILE:
                    return loop(n, here, depth);
                case JUMP:
                    return jump(a);
                case LABEL:
                    return label(n, here, depth);
                default:
                    return ofTwo(n, here, depth);
            }
        }

        private double ofTwo(int n, Environment here, int depth) {
            double left = value(program.as[n], here, depth + 1);
            if (leaving()) {
                return 0;
            }
            double right = value(program.bs[n], here, depth + 1);
            if (leaving()) {
                return 0;
            }
            switch (program.kinds[n]) {
                case ELEMENT:
                    return elementAt(rounded(left), rounded(right));
                case ADD:
                    return limited(left + right);
                case SUB:
                    return limited(left - right);
                case MUL:
                    return limited(left * right);
                case OVER:
                    return right == 0 ? fail(BY_ZERO) : limited(left / right);
                case DIV:
                    return quotient(rounded(left), rounded(right));
                default:
                    return left < right ? 1 : 0;
            }
        }

        private double elementAt(long row, long column) {
            return store.holds(row, column) ? store.elements[store.place(row, column)] : fail(NO_ELEMENT);
        }

        private double limited(double v) {
            return isWithinSize(v) ? v : fail(TOO_LARGE);
        }

        private double quotient(long left, long right) {
            return right == 0 ? fail(BY_ZERO) : left / right;
        }

        private double choice(int n, Environment here, int depth) {
            double test = value(program.as[n], here, depth + 1);
            if (leaving()) {
                return 0;
            }
            return value(test != 0 ? program.bs[n] : program.cs[n], here, depth + 1);
        }

        private double parameter(int a, Environment here, int depth) {
            if (!here.hasParameter(a)) {
                return fail(NOT_THERE);
            }
            if (!here.isByName(a)) {
                return here.values[a];
            }
            if (!mayEnter()) {
                return 0;
            }
            double result = value(here.given[a], here.caller, depth + 1);
            openEnvironments--;
            return result;
        }

        private double call(int n, Environment here, int depth) {
            if (!program.canBeCalled(n)) {
                return fail(NOT_THERE);
            }
            int p = program.as[n];
            double first = program.isByValue(p, 0) ? value(program.bs[n], here, depth + 1) : 0;
            if (leaving()) {
                return 0;
            }
            double second = program.isByValue(p, 1) ? value(program.cs[n], here, depth + 1) : 0;
            if (leaving() || !mayEnter()) {
                return 0;
            }
            Environment inside = environments[openCalls];
            inside.begin(here, program.parameters[p], program.names[p]);
            inside.give(0, program.bs[n], first);
            inside.give(1, program.cs[n], second);
            openCalls++;
            bodiesBegun++;
            double result = value(program.bodies[p], inside, depth + 1);
            openCalls--;
            openEnvironments--;
            return result;
        }

        // What is set needs no look at its size: no node's value can be beyond 1e9, since 3 to 6 and put refuse it.
        private double set(int n, Environment here, int depth) {
            int target = program.as[n];
            if (!program.canBeSet(target)) {
                return fail(NOT_TO_BE_SET);
            }
            double v = value(program.bs[n], here, depth + 1);
            return leaving() ? 0 : become(target, v, here, depth);
        }

        private double become(int target, double v, Environment here, int depth) {
            int a = program.as[target];
            switch (program.kinds[target]) {
                case VARIABLE:
                    return store.assign(a, v);
                case ELEMENT:
                    // Worked out right here, not in a method of its own, to keep few calls open at the deepest.
                    double row = value(a, here, depth + 1);
                    if (leaving()) {
                        return 0;
                    }
                    double column = value(program.bs[target], here, depth + 1);
                    return leaving() ? 0 : elementBecomes(rounded(row), rounded(column), v);
                case LOCAL:
                    return localBecomes(a, v, here);
                case PARAMETER:
                    return parameterBecomes(a, v, here, depth);
                default:
                    return fail(NOT_TO_BE_SET);
            }
        }

        private double elementBecomes(long row, long column, double v) {
            if (!store.holds(row, column)) {
                return fail(NO_ELEMENT);
            }
            store.elements[store.place(row, column)] = v;
            return v;
        }

        private double localBecomes(int a, double v, Environment here) {
            if (!here.hasLocals()) {
                return fail(NOT_THERE);
            }
            here.locals[a] = v;
            return v;
        }

        // Goes no deeper than there are environments: each parameter that is followed opens one.
        private double parameterBecomes(int a, double v, Environment here, int depth) {
            if (!here.hasParameter(a)) {
                return fail(NOT_THERE);
            }
            if (!here.isByName(a)) {
                here.values[a] = v;
                return v;
            }
            if (!mayEnter()) {
                return 0;
            }
            double result = become(here.given[a], v, here.caller, depth);
            openEnvironments--;
            return result;
        }

        private double sequence(int n, Environment here, int depth) {
            value(program.as[n], here, depth + 1);
            return leaving() ? 0 : value(program.bs[n], here, depth + 1);
        }

        // Each turn works out a node or more, so the limit on these ends the loop before its own bound does.
        private double loop(int n, Environment here, int depth) {
            for (int turn = 0; turn <= MOST_WORKED; turn++) {
                double test = value(program.as[n], here, depth + 1);
                if (leaving() || test == 0) {
                    return 0;
                }
                value(program.bs[n], here, depth + 1);
                if (leaving()) {
                    return 0;
                }
            }
            return 0;
        }

        private double jump(int number) {
            if (openLabels[number] == 0) {
                return fail(NO_LABEL);
            }
            jumpingTo = number;
            return 0;
        }

        private double label(int n, Environment here, int depth) {
            int number = program.as[n];
            openLabels[number]++;
            double result = value(program.bs[n], here, depth + 1);
            openLabels[number]--;
            if (jumpingTo != number) {
                return result;
            }
            jumpingTo = NONE;
            jumpsArrived++;
            return 0;
        }
    }
}
