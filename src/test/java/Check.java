/** What all tests share: a call is compared with the answer, or the exception, that is due. */
final class Check {
    interface Call {
        double answer();
    }

    interface Step {
        void run();
    }

    private static int wrong = 0;

    private Check() {
    }

    static void due(String what, double want, Call call) {
        try {
            double got = call.answer();
            if (got != want) {
                tell(what + " answered " + got + ", due is " + want);
            }
        } catch (RuntimeException e) {
            tell(what + " threw " + e + ", due is " + want);
        }
    }

    /** The call answers, or throws, what the model does. */
    static void same(String what, Call model, Call call) {
        double want;
        try {
            want = model.answer();
        } catch (RuntimeException e) {
            refused(what, e.getClass(), () -> call.answer());
            return;
        }
        due(what, want, call);
    }

    static void passes(String what, Step step) {
        try {
            step.run();
        } catch (RuntimeException e) {
            tell(what + " threw " + e + ", due is nothing");
        }
    }

    static void refused(String what, Class<?> want, Step step) {
        try {
            step.run();
            tell(what + " threw nothing, due is " + want.getSimpleName());
        } catch (RuntimeException e) {
            if (e.getClass() != want) {
                tell(what + " threw " + e + ", due is " + want.getSimpleName());
            }
        }
    }

    static void illegal(String what, Step step) {
        refused(what, IllegalArgumentException.class, step);
    }

    static void tell(String text) {
        wrong++;
        System.out.println(text);
    }

    static void end() {
        if (wrong != 0) {
            System.out.println(wrong + " answers are not as due");
            System.exit(1);
        }
    }
}
