import java.util.NoSuchElementException;

/** Counts the answers that are not as due, and tells each of them. */
final class Checks {
    static final String NO_SUCH = NoSuchElementException.class.getName();
    static final String ARGUMENT = IllegalArgumentException.class.getName();
    static final String STATE = IllegalStateException.class.getName();

    interface Call {
        Object make();
    }

    private int made;
    private int wrong;

    void due(String what, Object want, Object got) {
        made++;
        if (!want.equals(got)) {
            wrong++;
            System.out.println(what + " answered " + got + ", due is " + want);
        }
    }

    void thrown(String what, String exception, Call call) {
        due(what, exception, outcome(call));
    }

    /** A call's answer, or the name of the exception's class that it threw. */
    static Object outcome(Call call) {
        try {
            return call.make();
        } catch (RuntimeException e) {
            return e.getClass().getName();
        }
    }

    /** Ends the test; with exit code 1 if an answer was wrong, or if nothing was looked at. */
    void end() {
        System.out.println(made + " answers looked at, " + wrong + " not as due");
        if (wrong != 0 || made == 0) {
            System.exit(1);
        }
    }
}
