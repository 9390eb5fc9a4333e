/** Counts the answers that are not due, and tells each of them. */
final class Check {
    interface Call {
        void run();
    }

    private static int asked = 0;
    private static int wrong = 0;
    private static String about = "";

    private Check() {
    }

    static int asked() {
        return asked;
    }

    /** What the next answers are about: it is told with each one that is wrong. */
    static void about(String text) {
        about = text;
    }

    static void due(String call, long want, long got) {
        asked++;
        if (want != got) {
            tell(call + " answered " + got + ", due is " + want);
        }
    }

    static void dueTrue(String what, boolean holds) {
        asked++;
        if (!holds) {
            tell(what + " does not hold");
        }
    }

    // The very class is due: what the machine throws is often a class below the document's one.
    static void dueThrow(String call, Class<? extends RuntimeException> want, Call made) {
        asked++;
        try {
            made.run();
        } catch (RuntimeException e) {
            if (e.getClass() != want) {
                tell(call + " throws " + e + ", due is " + want.getSimpleName());
            }
            return;
        }
        tell(call + " throws nothing, due is " + want.getSimpleName());
    }

    static void dueNothingThrown(String call, Call made) {
        asked++;
        try {
            made.run();
        } catch (RuntimeException e) {
            tell(call + " throws " + e + ", due is an answer");
        }
    }

    static void outOfBounds(String call, Call made) {
        dueThrow(call, IndexOutOfBoundsException.class, made);
    }

    static void badArgument(String call, Call made) {
        dueThrow(call, IllegalArgumentException.class, made);
    }

    static void badState(String call, Call made) {
        dueThrow(call, IllegalStateException.class, made);
    }

    static void finish() {
        System.out.println(asked + " answers asked, " + wrong + " wrong");
        if (wrong > 0) {
            System.exit(1);
        }
    }

    private static void tell(String text) {
        wrong++;
        if (wrong <= 50) {
            System.out.println(about.isEmpty() ? text : about + " | " + text);
        }
    }
}
