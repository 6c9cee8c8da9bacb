/** The edges of 80 nodes one in another and of 300 nodes in all, of faults 7 and 8 in the terms. */
final class EdgesOfLimits {
    private static final String TERMS = "Terms";

    private interface Shape {
        int made(Forge f);
    }

    private interface Around {
        int made(Forge f, int part);
    }

    private EdgesOfLimits() {
    }

    static void run() {
        nodesOneInAnother();
        nodesOneBehindAnother();
        partsOfEachKind();
        partsOfCalls();
        partsOfSet();
        whatIsRefusedBefore();
        nodesEachTime();
        nodesOfCalls();
        nodesOfSet();
    }

    private static void nodesOneInAnother() {
        Doc.says(TERMS, "or more than 80 NODES worked out one in another, a FAULT 7;");
        for (int nodes = 79; nodes <= 82; nodes++) {
            String what = nodes + " nodes one in another";
            Forge f = new Forge();
            int inside = f.num(6);
            for (int i = 79; i < nodes; i++) {
                inside = f.label(2, inside);
            }
            int all = f.under(78, inside);
            if (nodes <= 80) {
                f.gives(what, 6, all);
            } else {
                f.faults(what, 7, all);
            }
            f.counts(what, 2, Math.min(nodes, 80));
            f.counts(what, 5, 4);
        }
    }

    private static void nodesOneBehindAnother() {
        Forge f = new Forge();
        int inside = f.label(2, f.num(6));
        int all = f.under(78, f.num(5));
        int twice = f.then(all, f.call(0, inside));
        f.faults("80 nodes under THEN, then fewer", 7, f.then(f.underAgain(inside), twice));
        f.gives("79 nodes under THEN, then fewer", 6, twice);
        f.counts("more than 80, but not one in another", 2, 1 + 79 + 41);
    }

    private static void partsOfEachKind() {
        for (int kind = 2; kind <= 8; kind++) {
            int k = kind;
            edgeOf80("a of kind " + k, 0, 1, (f, part) -> f.x.make(k, part, f.num(1), -1));
            edgeOf80("b of kind " + k, 0, 1, (f, part) -> f.x.make(k, f.num(1), part, -1));
        }
        edgeOf80("a of IF", 0, 1, (f, part) -> f.iff(part, f.num(1), f.num(2)));
        edgeOf80("b of IF", 0, 1, (f, part) -> f.iff(f.num(1), part, f.num(2)));
        edgeOf80("c of IF", 0, 1, (f, part) -> f.iff(f.num(0), f.num(2), part));
        edgeOf80("a of THEN", 0, 1, (f, part) -> f.then(part, f.num(1)));
        edgeOf80("b of THEN", 0, 1, (f, part) -> f.then(f.num(1), part));
        edgeOf80("b of LABEL", 0, 1, (f, part) -> f.label(2, part));
        edgeOf80("a of WHILE", 0, 1, (f, part) -> f.loop(part, f.jump(3)));
        edgeOf80("a of WHILE without an end", 8, 1, (f, part) -> f.loop(part, f.num(1)));
        edgeOf80("b of WHILE without an end", 8, 1, (f, part) -> f.loop(f.num(1), part));
    }

    private static void partsOfCalls() {
        edgeOf80("the body of CALL", 0, 1, (f, part) -> {
            f.x.procedure(1, part, 0, 0);
            return f.call(1);
        });
        edgeOf80("the first value of CALL", 0, 1, (f, part) -> {
            f.x.procedure(1, f.num(1), 1, 0);
            return f.call(1, part);
        });
        edgeOf80("the second value of CALL", 0, 1, (f, part) -> {
            f.x.procedure(1, f.num(1), 2, 0);
            return f.call(1, f.num(1), part);
        });
        edgeOf80("what is given for PARAMETER by name", 0, 2, (f, part) -> {
            f.x.procedure(1, f.par(1), 2, 3);
            return f.call(1, f.num(1), part);
        });
    }

    /** SET does not work a out, so its row and column stand just below SET, wherever a parameter leads. */
    private static void partsOfSet() {
        edgeOf80("b of SET", 0, 1, (f, part) -> f.set(f.var(6), part));
        edgeOf80("the row of SET", 0, 1, (f, part) -> f.set(f.elem(part, f.num(1)), f.num(1)));
        edgeOf80("the column of SET", 0, 1, (f, part) -> f.set(f.elem(f.num(1), part), f.num(1)));
        edgeOf80("the row of SET by name", 0, 2, (f, part) -> {
            f.x.procedure(1, f.set(f.par(0), f.num(1)), 1, 1);
            return f.call(1, f.elem(part, f.num(1)));
        });
    }

    /** The part stands as the 80th, so many nodes below the shape: by itself it fits, with a part of its own not. */
    private static void edgeOf80(String what, int dueFault, int below, Around shape) {
        Forge fits = new Forge();
        fits.x.put(4, 1);
        int n = fits.under(79 - below, shape.made(fits, fits.var(4)));
        if (dueFault == 0) {
            Check.passes(what + " as the 80th", () -> fits.x.work(n));
        } else {
            fits.faults(what + " as the 80th", dueFault, n);
        }
        Forge deep = new Forge();
        deep.x.put(4, 1);
        int one = deep.var(4);
        deep.faults(what + " with an 81st", 7, deep.under(79 - below, shape.made(deep, deep.div(one, one))));
    }

    /** What would fail or jump by itself is not even begun as the 81st or the 301st. */
    private static void whatIsRefusedBefore() {
        refusedBefore("PARAMETER", 4, f -> f.par(0));
        refusedBefore("LOCAL", 4, f -> f.local(0));
        refusedBefore("CALL without a body", 4, f -> f.call(2));
        refusedBefore("JUMP without its label", 5, f -> f.jump(1));
        refusedBefore("SET of a label", 6, f -> {
            int one = f.num(1);
            return f.set(f.label(0, one), one);
        });
        refusedBefore("JUMP to its label", 0, f -> f.jump(3));
    }

    private static void refusedBefore(String what, int fault, Shape shape) {
        for (int place = 0; place < 2; place++) {
            Forge f = new Forge();
            int n = shape.made(f);
            int all = f.under(79 + place, n);
            refusedOr(what + " as the " + (80 + place) + "th below", f, place == 0 ? fault : 7, all);
            Forge g = new Forge();
            int m = shape.made(g);
            refusedOr(what + " as number " + (300 + place), g, place == 0 ? fault : 8, behind(g, 299 + place, m));
        }
    }

    private static void refusedOr(String what, Forge f, int fault, int n) {
        if (fault == 0) {
            f.gives(what, 0, n);
        } else {
            f.faults(what, fault, n);
        }
        f.counts(what, 6, fault == 0 ? 1 : 0);
    }

    /** These many nodes are worked out for each shape: with 300 in all it passes, with 301 it does not. */
    private static void nodesEachTime() {
        Doc.says(TERMS, "more than 300 NODES worked out (each time one is;");
        edgeOf300("NUMBER", 1, f -> f.num(1));
        edgeOf300("VARIABLE", 1, f -> f.var(4));
        edgeOf300("ELEMENT", 3, f -> f.elem(f.num(1), f.num(1)));
        for (int kind = 3; kind <= 8; kind++) {
            int k = kind;
            edgeOf300("kind " + k, 3, f -> f.x.make(k, f.num(1), f.num(1), -1));
        }
        edgeOf300("one node as both parts", 3, f -> {
            int one = f.num(1);
            return f.add(one, one);
        });
        edgeOf300("IF, its test and one of two", 3, f -> f.iff(f.num(1), f.num(1), f.add(f.num(1), f.num(1))));
        edgeOf300("IF, its test and the other", 3, f -> f.iff(f.num(0), f.add(f.num(1), f.num(1)), f.num(1)));
        edgeOf300("THEN", 3, f -> f.then(f.num(1), f.num(1)));
        edgeOf300("WHILE without a turn", 2, f -> f.loop(f.num(0), f.num(1)));
        edgeOf300("WHILE with a turn", 5, f -> f.loop(f.var(4), f.set(f.var(4), f.num(0))));
        edgeOf300("LABEL and JUMP", 2, f -> f.label(0, f.jump(0)));
        edgeOf300("LABEL, JUMP and what is left", 3, f -> f.label(0, f.then(f.jump(0), f.num(1))));
    }

    private static void nodesOfCalls() {
        edgeOf300("CALL and its body", 2, f -> called(f, f.num(1), 2, 3));
        edgeOf300("CALL, its values and its body", 4, f -> called(f, f.num(1), 2, 0));
        edgeOf300("LOCAL", 2, f -> called(f, f.local(0), 2, 3));
        edgeOf300("PARAMETER by value", 3, f -> called(f, f.par(0), 1, 0));
        edgeOf300("PARAMETER by name", 3, f -> called(f, f.par(0), 1, 1));
        edgeOf300("PARAMETER by name twice", 6, f -> called(f, f.add(f.par(0), f.par(0)), 1, 1));
        edgeOf300("PARAMETER by value twice", 5, f -> called(f, f.add(f.par(0), f.par(0)), 1, 0));
    }

    private static void nodesOfSet() {
        Doc.says(TERMS, "SET does not count a, but its row and column) a FAULT 8.");
        edgeOf300("SET of a variable", 2, f -> f.set(f.var(4), f.num(1)));
        edgeOf300("SET of an element", 4, f -> f.set(f.elem(f.num(1), f.num(1)), f.num(1)));
        edgeOf300("SET of an element at a sum", 6, f -> f.set(f.elem(f.add(f.num(0), f.num(1)), f.num(1)), f.num(1)));
        edgeOf300("SET of a local", 3, f -> called(f, f.set(f.local(0), f.num(1)), 1, 1));
        edgeOf300("SET of a parameter by value", 4, f -> called(f, f.set(f.par(0), f.num(1)), 1, 0));
        edgeOf300("SET of a parameter by name", 3, f -> called(f, f.set(f.par(0), f.num(1)), 1, 1));
        edgeOf300("SET by name of an element", 5, f -> {
            f.x.procedure(0, f.set(f.par(0), f.num(1)), 1, 1);
            return f.call(0, f.elem(f.num(1), f.num(1)));
        });
    }

    /** A call of this body with two variables given. */
    private static int called(Forge f, int body, int n, int names) {
        f.x.procedure(0, body, n, names);
        return f.call(0, f.var(4), f.var(5));
    }

    /** So many nodes are worked out before this one: LABELs, THEN and a loop of 41 turns, which is 4 + 7 * 41 nodes. */
    private static int behind(Forge f, int nodes, int n) {
        int i = f.var(0);
        int inside = n;
        for (int have = 1 + 291; have < nodes; have++) {
            inside = f.label(3, inside);
        }
        return f.then(f.loop(f.less(i, f.num(41)), f.set(i, f.add(i, f.num(1)))), inside);
    }

    private static void edgeOf300(String what, int nodes, Shape shape) {
        Forge fits = new Forge();
        fits.x.put(4, 1);
        int just = behind(fits, 300 - nodes, shape.made(fits));
        Check.passes(what + " with 300 nodes", () -> fits.x.work(just));
        fits.counts(what + " with 300 nodes", 3, 0);
        fits.counts(what + " with 300 nodes", 2, 300);
        Forge more = new Forge();
        more.x.put(4, 1);
        more.faults(what + " with 301 nodes", 8, behind(more, 301 - nodes, shape.made(more)));
        more.counts(what + " with 301 nodes", 2, 300);
    }
}
