import java.util.function.Function;

/** Every call with every wrong input of the document: what it throws, and that nothing is changed. */
public final class WrongInputTest {
    private static final int[] NO_GRAPHS = {-1, 3, Integer.MIN_VALUE, Integer.MAX_VALUE, 32};
    private static final int[] NO_VERTICES = {-1, 4, 7, 32, Integer.MIN_VALUE, Integer.MAX_VALUE};
    private static final int[] NO_COLOURS = {-1, 4, Integer.MIN_VALUE, Integer.MAX_VALUE};
    private static final int[] NO_SETS = {16, 17, 128, -1, Integer.MIN_VALUE, Integer.MAX_VALUE};
    private static final Checks CHECKS = new Checks();

    public static void main(String[] args) {
        noGraph();
        noVertex();
        noSet();
        wrongArguments();
        wrongStates();
        CHECKS.end();
    }

    private static void noGraph() {
        for (int g : NO_GRAPHS) {
            refused("vertex", Checks.NO_SUCH, n -> n.vertex(g, 0));
            refused("vertex, no colour either", Checks.NO_SUCH, n -> n.vertex(g, 4));
            refused("paint", Checks.NO_SUCH, n -> n.paint(g, 0, 0));
            refused("join", Checks.NO_SUCH, n -> n.join(g, 0, 2));
            refused("join, not different", Checks.NO_SUCH, n -> n.join(g, 0, 0));
            refused("part", Checks.NO_SUCH, n -> n.part(g, 0, 1));
            refused("clear", Checks.NO_SUCH, n -> n.clear(g));
            refused("copy to", Checks.NO_SUCH, n -> n.copy(g, 0));
            refused("copy from", Checks.NO_SUCH, n -> n.copy(0, g));
            refused("turn", Checks.NO_SUCH, n -> n.turn(g));
            refused("settle", Checks.NO_SUCH, n -> n.settle(g));
            refused("size", Checks.NO_SUCH, n -> n.size(g));
            refused("beside", Checks.NO_SUCH, n -> n.beside(g, 0));
            refused("name", Checks.NO_SUCH, n -> n.name(g));
            refused("place", Checks.NO_SUCH, n -> n.place(g, 0));
            refused("automorphisms", Checks.NO_SUCH, n -> n.automorphisms(g));
            refused("fixing", Checks.NO_SUCH, n -> n.fixing(g, 0));
            refused("orbit", Checks.NO_SUCH, n -> n.orbit(g, 0));
            refused("orbits", Checks.NO_SUCH, n -> n.orbits(g));
            refused("cell", Checks.NO_SUCH, n -> n.cell(g, 0));
            refused("cells", Checks.NO_SUCH, n -> n.cells(g));
            refused("same, first", Checks.NO_SUCH, n -> n.same(g, 0));
            refused("same, second", Checks.NO_SUCH, n -> n.same(0, g));
            refused("match, first", Checks.NO_SUCH, n -> n.match(g, 0, 0));
            refused("match, second", Checks.NO_SUCH, n -> n.match(0, g, 0));
            refused("moves", Checks.NO_SUCH, n -> n.moves(g, 0, 0, 0));
        }
    }

    private static void noVertex() {
        for (int v : NO_VERTICES) {
            refused("paint", Checks.NO_SUCH, n -> n.paint(0, v, 0));
            refused("paint, no colour either", Checks.NO_SUCH, n -> n.paint(0, v, 9));
            refused("join, first", Checks.NO_SUCH, n -> n.join(0, v, 0));
            refused("join, second", Checks.NO_SUCH, n -> n.join(0, 0, v));
            refused("join, not different", Checks.NO_SUCH, n -> n.join(0, v, v));
            refused("part, first", Checks.NO_SUCH, n -> n.part(0, v, 0));
            refused("part, second", Checks.NO_SUCH, n -> n.part(0, 0, v));
            refused("part, not different", Checks.NO_SUCH, n -> n.part(0, v, v));
            refused("beside", Checks.NO_SUCH, n -> n.beside(0, v));
            refused("place", Checks.NO_SUCH, n -> n.place(0, v));
            refused("orbit", Checks.NO_SUCH, n -> n.orbit(0, v));
            refused("cell", Checks.NO_SUCH, n -> n.cell(0, v));
            refused("match", Checks.NO_SUCH, n -> n.match(0, 0, v));
            refused("match of two that aren't the same", Checks.NO_SUCH, n -> n.match(0, 1, v));
            refused("moves, first", Checks.NO_SUCH, n -> n.moves(0, v, 0, 0));
            refused("moves, second", Checks.NO_SUCH, n -> n.moves(0, 0, v, 0));
            refused("moves, both", Checks.NO_SUCH, n -> n.moves(0, v, v, 0));
        }
        refused("beside without vertices", Checks.NO_SUCH, n -> n.beside(2, 0));
        refused("match without vertices", Checks.NO_SUCH, n -> n.match(2, 2, 0));
    }

    private static void noSet() {
        for (int set : NO_SETS) {
            refused("fixing", Checks.NO_SUCH, n -> n.fixing(0, set));
            refused("moves", Checks.NO_SUCH, n -> n.moves(0, 0, 1, set));
            refused("moves to itself", Checks.NO_SUCH, n -> n.moves(0, 0, 0, set));
            refused("fixing without vertices", Checks.NO_SUCH, n -> n.fixing(2, set));
        }
        refused("fixing an eighth of seven", Checks.NO_SUCH, n -> n.fixing(1, 128));
        refused("moves beside an eighth of seven", Checks.NO_SUCH, n -> n.moves(1, 0, 1, 128));
    }

    private static void wrongArguments() {
        for (int colour : NO_COLOURS) {
            refused("vertex", Checks.ARGUMENT, n -> n.vertex(0, colour));
            refused("vertex of an empty graph", Checks.ARGUMENT, n -> n.vertex(2, colour));
            refused("vertex of a full graph", Checks.ARGUMENT, n -> n.vertex(1, colour));
            refused("paint", Checks.ARGUMENT, n -> n.paint(0, 1, colour));
        }
        for (int v = 0; v < 4; v++) {
            int same = v;
            refused("join", Checks.ARGUMENT, n -> n.join(0, same, same));
            refused("part", Checks.ARGUMENT, n -> n.part(0, same, same));
        }
    }

    private static void wrongStates() {
        for (int colour = 0; colour < 4; colour++) {
            int given = colour;
            refused("vertex", Checks.STATE, n -> n.vertex(1, given));
        }
        refused("join", Checks.STATE, n -> n.join(0, 0, 1));
        refused("join the other way round", Checks.STATE, n -> n.join(0, 2, 1));
        refused("part", Checks.STATE, n -> n.part(0, 0, 2));
        refused("part the other way round", Checks.STATE, n -> n.part(0, 3, 0));
    }

    /** On an object of its own each time, as one takes no more than 512 calls. */
    private static void refused(String what, String exception, Function<GraphNamer, Object> call) {
        GraphNamer namer = fourSevenNone();
        String before = Graphs.state(namer);
        CHECKS.thrown(what, exception, () -> call.apply(namer));
        CHECKS.due(what + " that throws changes nothing:", before, Graphs.state(namer));
    }

    /** Graph 0 has four vertices, graph 1 seven, graph 2 none. */
    private static GraphNamer fourSevenNone() {
        GraphNamer namer = Graphs.with(0, new int[] {3, 0, 1, 0}, 0, 1, 1, 2);
        Graphs.build(namer, 1, Graphs.plain(7), Graphs.ring(7));
        return namer;
    }
}
