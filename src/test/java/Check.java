import java.util.NoSuchElementException;

/** Counts what is not as it is due, and ends the program with 1 if there was any. */
final class Check {
    static final Class<?> NONE = NoSuchElementException.class;
    static final Class<?> ARGUMENT = IllegalArgumentException.class;
    static final Class<?> STATE = IllegalStateException.class;
    static final Class<?> UNSUPPORTED = UnsupportedOperationException.class;

    interface Call {
        void run();
    }

    private int wrong = 0;
    private int right = 0;

    void due(String what, long got, long want) {
        if (got == want) {
            right++;
        } else {
            wrong++;
            System.out.println(what + " answered " + got + ", due is " + want);
        }
    }

    void isThrown(String what, Class<?> kind, Call call) {
        Class<?> got = null;
        try {
            call.run();
        } catch (RuntimeException e) {
            got = e.getClass();
        }
        if (got == kind) {
            right++;
        } else {
            wrong++;
            System.out.println(what + " threw " + got + ", due is " + kind);
        }
    }

    void end() {
        System.out.println(right + " checks right, " + wrong + " wrong");
        if (wrong > 0 || right == 0) {
            System.exit(1);
        }
    }
}
