/** What the tests share: answers and exceptions that are due, and a count of those that did not come. */
final class Due {
    interface Call {
        long run();
    }

    interface Quiet {
        void run();
    }

    static final Class<IndexOutOfBoundsException> INDEX = IndexOutOfBoundsException.class;
    static final Class<IllegalArgumentException> ARGUMENT = IllegalArgumentException.class;
    static final Class<IllegalStateException> STATE = IllegalStateException.class;

    private static int wrong = 0;

    private Due() {
    }

    static void due(String what, long want, long got) {
        if (got != want) {
            wrong++;
            System.out.println(what + " answered " + got + ", due is " + want);
        }
    }

    static void due(String what, boolean want, boolean got) {
        due(what, want ? 1 : 0, got ? 1 : 0);
    }

    /** The class must be just that one: what the machine throws is of a class below it, or of another. */
    static void refused(String what, Class<? extends RuntimeException> want, Call call) {
        Class<?> got = null;
        try {
            call.run();
        } catch (RuntimeException e) {
            got = e.getClass();
        }
        if (got != want) {
            wrong++;
            System.out.println(what + " threw " + got + ", due is " + want);
        }
    }

    static void refusedQuietly(String what, Class<? extends RuntimeException> want, Quiet call) {
        refused(what, want, () -> {
            call.run();
            return 0;
        });
    }

    static void end() {
        if (wrong != 0) {
            System.out.println(wrong + " answers are not as due");
            System.exit(1);
        }
    }
}
