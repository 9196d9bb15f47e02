import java.util.NoSuchElementException;

/** Counts what is not as it is due, and ends the program with 1 if there was any. */
final class Check {
    static final Class<?> NONE = NoSuchElementException.class;
    static final Class<?> ARGUMENT = IllegalArgumentException.class;
    static final Class<?> STATE = IllegalStateException.class;
    static final Class<?> UNSUPPORTED = UnsupportedOperationException.class;

    interface Call {
        void run();
    }

    private int wrong = 0;
    private int right = 0;
    private int sentences = 0;

    void due(String what, long got, long want) {
        if (got == want) {
            right++;
        } else {
            wrong++;
            System.out.println(what + " answered " + got + ", due is " + want);
        }
    }

    void isThrown(String what, Class<?> kind, Call call) {
        Class<?> got = null;
        try {
            call.run();
        } catch (RuntimeException e) {
            got = e.getClass();
        }
        if (got == kind) {
            right++;
        } else {
            wrong++;
            System.out.println(what + " threw " + got + ", due is " + kind);
        }
    }

    void isTrue(String what, boolean so) {
        due(what, so ? 1 : 0, 1);
    }

    /** A test by itself, named by the promise and the document's own words that it tests. */
    void sentence(String promise, String words, Call test) {
        int wrongBefore = wrong;
        int rightBefore = right;
        sentences++;
        try {
            test.run();
        } catch (RuntimeException e) {
            wrong++;
            System.out.println("threw " + e);
        }
        if (right + wrong == rightBefore + wrongBefore) {
            wrong++;
            System.out.println("nothing was checked");
        }
        if (wrong > wrongBefore) {
            System.out.println("NOT KEPT: " + promise + ": " + words);
        }
    }

    void end() {
        String by = sentences == 0 ? "" : sentences + " sentences, ";
        System.out.println(by + right + " checks right, " + wrong + " wrong");
        if (wrong > 0 || right == 0) {
            System.exit(1);
        }
    }
}
