import java.util.Random;

/** Programs that nobody chose, worked out by NameForge and by the Oracle: each answer and all that is left agree. */
final class AnyProgramTest {
    private static final int PROGRAMS = 20000;
    // More works would need more than 512 calls of one object, since all that they leave is asked for behind each.
    private static final int WORKS = 10;

    private final Random random;
    private final NameForge x = new NameForge();
    private final Oracle oracle = new Oracle();

    private AnyProgramTest(long seed) {
        random = new Random(seed);
    }

    public static void main(String[] args) {
        int[] seen = new int[9];
        for (int seed = 0; seed < PROGRAMS; seed++) {
            new AnyProgramTest(seed).run("program " + seed, seen);
        }
        for (int fault = 0; fault <= 8; fault++) {
            if (seen[fault] < 100) {
                Check.tell("fault " + fault + " came " + seen[fault] + " times only: this test tests too little");
            }
        }
        Check.end();
    }

    private void run(String what, int[] seen) {
        layTable();
        for (int i = 0; i < 8; i++) {
            double v = random.nextInt(9) == 0 ? 1e9 - random.nextInt(3) : (random.nextInt(81) - 40) / 8.0;
            x.put(i, v);
            oracle.put(i, v);
        }
        int size = 6 + random.nextInt(43);
        while (oracle.count(0) < size) {
            addNode();
        }
        for (int i = 0; i < WORKS; i++) {
            if (i % 3 == 0) {
                defineProcedures();
            }
            compare(what + ", work " + i, size - 1 - random.nextInt(Math.min(size, 12)), seen);
        }
    }

    private void layTable() {
        int low = random.nextInt(3) - 1;
        int low2 = random.nextInt(3) - 1;
        int high = low + random.nextInt(5);
        int high2 = low2 + random.nextInt(5);
        x.bounds(low, high, low2, high2);
        oracle.bounds(low, high, low2, high2);
    }

    /** Mostly one of the latest nodes, so that programs are deep as well as wide. */
    private int anyNode() {
        int size = oracle.count(0);
        int latest = size - 1 - random.nextInt(Math.min(size, 8));
        return random.nextInt(3) == 0 ? random.nextInt(size) : latest;
    }

    private int anySettable() {
        for (int tries = 0; tries < 20; tries++) {
            int n = random.nextInt(oracle.count(0));
            int kind = oracle.node(n, 0);
            if (kind == 1 || kind == 2 || kind == 10 || kind == 11) {
                return n;
            }
        }
        return anyNode();
    }

    private void addNode() {
        int leaf = new int[] {0, 0, 1, 1, 10, 11, 16}[random.nextInt(7)];
        int kind = oracle.count(0) < 4 || random.nextInt(5) == 0 ? leaf : random.nextInt(18);
        if (kind == 6 && random.nextInt(3) > 0) {
            kind = 12;
        }
        int a = 0;
        int b = -1;
        int c = -1;
        switch (kind) {
            case 0:
                a = random.nextInt(41) - 12;
                break;
            case 1:
                a = random.nextInt(8);
                break;
            case 10:
            case 11:
                a = random.nextInt(2);
                break;
            case 12:
                a = random.nextInt(4);
                b = random.nextInt(15) == 0 ? -1 : random.nextBoolean() ? anySettable() : anyNode();
                c = random.nextInt(15) == 0 ? -1 : random.nextBoolean() ? anySettable() : anyNode();
                break;
            case 16:
                a = random.nextInt(2);
                break;
            case 17:
                a = random.nextInt(2);
                b = anyNode();
                break;
            default:
                a = kind == 13 && random.nextInt(12) > 0 ? anySettable() : anyNode();
                b = anyNode();
                c = kind == 9 ? anyNode() : -1;
                break;
        }
        x.make(kind, a, b, c);
        oracle.make(kind, a, b, c);
    }

    private void defineProcedures() {
        for (int p = 0; p < 4; p++) {
            if (random.nextInt(12) > 0) {
                int body = anyNode();
                int n = Math.min(2, random.nextInt(4));
                int names = random.nextInt(4);
                x.procedure(p, body, n, names);
                oracle.procedure(p, body, n, names);
            }
        }
    }

    private void compare(String what, int n, int[] seen) {
        Check.same(what, () -> oracle.work(n), () -> x.work(n));
        seen[oracle.count(3)]++;
        oracle.compareState(what, x);
    }
}
