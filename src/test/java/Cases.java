import java.util.function.Function;

/** Boundary cases, each on an object of its own and told by the number of the promise it belongs to. */
final class Cases {
    private static final int PROMISES = 22;
    /** From here on the promises are of calls that only look. */
    private static final int FIRST_LOOK = 10;

    private final Checks checks = new Checks();
    private final boolean[] answered = new boolean[PROMISES + 1];
    private final boolean[] refused = new boolean[PROMISES + 1];

    void answers(int promise, String boundary, Object due, GraphNamer namer, Function<GraphNamer, Object> call) {
        String told = told(promise, boundary);
        String before = Graphs.state(namer);
        answered[promise] = true;
        checks.due(told, due, Checks.outcome(() -> call.apply(namer)));
        if (promise >= FIRST_LOOK) {
            checks.due(told + ": looking changes nothing:", before, Graphs.state(namer));
        }
    }

    /** The sizes, colours and edges, as Graphs.state tells them, that stand after a call. */
    void leaves(int promise, String boundary, String state, GraphNamer namer, Function<GraphNamer, Object> call) {
        String told = told(promise, boundary);
        answered[promise] = true;
        Checks.outcome(() -> call.apply(namer));
        checks.due(told + " leaves", state, Graphs.state(namer));
    }

    void refuses(int promise, String boundary, String exception, GraphNamer namer, Function<GraphNamer, Object> call) {
        String told = told(promise, boundary);
        String before = Graphs.state(namer);
        refused[promise] = true;
        checks.thrown(told, exception, () -> call.apply(namer));
        checks.due(told + ": a call that throws changes nothing:", before, Graphs.state(namer));
    }

    /** Ends the test; a promise of these without a case is a fault, as is one without a refused call. */
    void end(int first, int last) {
        for (int promise = first; promise <= last; promise++) {
            checks.due("promise " + promise + " has a case", true, answered[promise]);
            checks.due("promise " + promise + " has a refused call", true, refused[promise]);
        }
        checks.end();
    }

    private static String told(int promise, String boundary) {
        return "promise " + promise + ": " + boundary;
    }
}
