/** Promise 3: procedure. */
final class Promise03ProcedureTest {
    public static void main(String[] args) {
        eachHasItsOwnBody();
        laterOneCounts();
        namesByBit();
        refusals();
        Check.end();
    }

    private static void eachHasItsOwnBody() {
        Forge f = new Forge();
        for (int p = 0; p < 4; p++) {
            f.x.procedure(p, f.num(p + 0.5), 0, 0);
        }
        for (int p = 0; p < 4; p++) {
            f.gives("a call of procedure " + p, p + 0.5, f.call(p));
        }
    }

    private static void laterOneCounts() {
        Forge f = new Forge();
        int call = f.call(1, f.num(7));
        f.x.procedure(1, f.num(1), 0, 3);
        f.gives("the first body", 1, call);
        f.x.procedure(1, f.par(0), 1, 0);
        f.gives("the second body", 7, call);
        f.x.procedure(1, call, 0, 0);
        f.faults("a body that calls itself for ever", 7, call);
    }

    /** The body raises variable 4 and then takes both parameters, so that only those by name see the rise. */
    private static void namesByBit() {
        double[] due = {0, 1, 10, 11};
        for (int names = 0; names <= 3; names++) {
            Forge f = new Forge();
            int v = f.var(4);
            int both = f.add(f.par(0), f.mul(f.num(10), f.par(1)));
            f.x.procedure(2, f.then(f.set(v, f.num(1)), both), 2, names);
            f.gives("names " + names, due[names], f.call(2, v, v));
        }
    }

    private static void refusals() {
        Forge f = new Forge();
        int one = f.num(1);
        int call = f.call(0);
        f.x.procedure(0, one, 0, 0);
        int[][] wrong = {
            {-1, 0, 0, 0}, {4, 0, 0, 0}, {0, -1, 0, 0}, {0, 2, 0, 0}, {0, Integer.MIN_VALUE, 0, 0}, {0, 0, -1, 0},
            {0, 0, 3, 0}, {0, 0, 0, -1}, {0, 0, 0, 4}, {0, 0, 2, Integer.MAX_VALUE}
        };
        for (int[] w : wrong) {
            String what = "procedure(" + w[0] + ", " + w[1] + ", " + w[2] + ", " + w[3] + ")";
            Check.illegal(what, () -> f.x.procedure(w[0], w[1], w[2], w[3]));
            f.gives("the call behind " + what, 1, call);
        }
        Check.passes("procedure(3, 1, 2, 3)", () -> f.x.procedure(3, 1, 2, 3));
    }
}
