import java.util.function.Function;

/** Every call with every wrong input of the document: what it throws, and that nothing is changed. */
public final class WrongInputTest {
    private static final int[] NO_GRAPHS = {-1, 3, Integer.MIN_VALUE, Integer.MAX_VALUE, 32};
    private static final int[] NO_VERTICES = {-1, 4, 7, 32, Integer.MIN_VALUE, Integer.MAX_VALUE};
    private static final int[] NO_COLOURS = {-1, 4, Integer.MIN_VALUE, Integer.MAX_VALUE};
    private static final int[] NO_SETS = {16, 17, 128, -1, Integer.MIN_VALUE, Integer.MAX_VALUE};
    private static final Checks CHECKS = new Checks();

    public static void main(String[] args) {
        noGraph();
        noVertex();
        noSet();
        wrongArguments();
        wrongStates();
        CHECKS.end();
    }

    private static void noGraph() {
        for (int g : NO_GRAPHS) {
            refused("promise 2: vertex with " + g, Checks.NO_SUCH, n -> n.vertex(g, 0));
            refused("promise 2: vertex, no colour either with " + g, Checks.NO_SUCH, n -> n.vertex(g, 4));
            refused("promise 3: paint with " + g, Checks.NO_SUCH, n -> n.paint(g, 0, 0));
            refused("promise 4: join with " + g, Checks.NO_SUCH, n -> n.join(g, 0, 2));
            refused("promise 4: join, not different with " + g, Checks.NO_SUCH, n -> n.join(g, 0, 0));
            refused("promise 5: part with " + g, Checks.NO_SUCH, n -> n.part(g, 0, 1));
            refused("promise 6: clear with " + g, Checks.NO_SUCH, n -> n.clear(g));
            refused("promise 7: copy to with " + g, Checks.NO_SUCH, n -> n.copy(g, 0));
            refused("promise 7: copy from with " + g, Checks.NO_SUCH, n -> n.copy(0, g));
            refused("promise 8: turn with " + g, Checks.NO_SUCH, n -> n.turn(g));
            refused("promise 9: settle with " + g, Checks.NO_SUCH, n -> n.settle(g));
            refused("promise 10: size with " + g, Checks.NO_SUCH, n -> n.size(g));
            refused("promise 11: beside with " + g, Checks.NO_SUCH, n -> n.beside(g, 0));
            refused("promise 12: name with " + g, Checks.NO_SUCH, n -> n.name(g));
            refused("promise 13: place with " + g, Checks.NO_SUCH, n -> n.place(g, 0));
            refused("promise 14: automorphisms with " + g, Checks.NO_SUCH, n -> n.automorphisms(g));
            refused("promise 15: fixing with " + g, Checks.NO_SUCH, n -> n.fixing(g, 0));
            refused("promise 16: orbit with " + g, Checks.NO_SUCH, n -> n.orbit(g, 0));
            refused("promise 17: orbits with " + g, Checks.NO_SUCH, n -> n.orbits(g));
            refused("promise 18: cell with " + g, Checks.NO_SUCH, n -> n.cell(g, 0));
            refused("promise 19: cells with " + g, Checks.NO_SUCH, n -> n.cells(g));
            refused("promise 20: same, first with " + g, Checks.NO_SUCH, n -> n.same(g, 0));
            refused("promise 20: same, second with " + g, Checks.NO_SUCH, n -> n.same(0, g));
            refused("promise 21: match, first with " + g, Checks.NO_SUCH, n -> n.match(g, 0, 0));
            refused("promise 21: match, second with " + g, Checks.NO_SUCH, n -> n.match(0, g, 0));
            refused("promise 22: moves with " + g, Checks.NO_SUCH, n -> n.moves(g, 0, 0, 0));
        }
    }

    private static void noVertex() {
        for (int v : NO_VERTICES) {
            refused("promise 3: paint with " + v, Checks.NO_SUCH, n -> n.paint(0, v, 0));
            refused("promise 3: paint, no colour either with " + v, Checks.NO_SUCH, n -> n.paint(0, v, 9));
            refused("promise 4: join, first with " + v, Checks.NO_SUCH, n -> n.join(0, v, 0));
            refused("promise 4: join, second with " + v, Checks.NO_SUCH, n -> n.join(0, 0, v));
            refused("promise 4: join, not different with " + v, Checks.NO_SUCH, n -> n.join(0, v, v));
            refused("promise 5: part, first with " + v, Checks.NO_SUCH, n -> n.part(0, v, 0));
            refused("promise 5: part, second with " + v, Checks.NO_SUCH, n -> n.part(0, 0, v));
            refused("promise 5: part, not different with " + v, Checks.NO_SUCH, n -> n.part(0, v, v));
            refused("promise 11: beside with " + v, Checks.NO_SUCH, n -> n.beside(0, v));
            refused("promise 13: place with " + v, Checks.NO_SUCH, n -> n.place(0, v));
            refused("promise 16: orbit with " + v, Checks.NO_SUCH, n -> n.orbit(0, v));
            refused("promise 18: cell with " + v, Checks.NO_SUCH, n -> n.cell(0, v));
            refused("promise 21: match with " + v, Checks.NO_SUCH, n -> n.match(0, 0, v));
            refused("promise 21: match of two that aren't the same with " + v, Checks.NO_SUCH, n -> n.match(0, 1, v));
            refused("promise 22: moves, first with " + v, Checks.NO_SUCH, n -> n.moves(0, v, 0, 0));
            refused("promise 22: moves, second with " + v, Checks.NO_SUCH, n -> n.moves(0, 0, v, 0));
            refused("promise 22: moves, both with " + v, Checks.NO_SUCH, n -> n.moves(0, v, v, 0));
        }
        refused("promise 11: beside without vertices", Checks.NO_SUCH, n -> n.beside(2, 0));
        refused("promise 21: match without vertices", Checks.NO_SUCH, n -> n.match(2, 2, 0));
    }

    private static void noSet() {
        for (int set : NO_SETS) {
            refused("promise 15: fixing with " + set, Checks.NO_SUCH, n -> n.fixing(0, set));
            refused("promise 22: moves with " + set, Checks.NO_SUCH, n -> n.moves(0, 0, 1, set));
            refused("promise 22: moves to itself with " + set, Checks.NO_SUCH, n -> n.moves(0, 0, 0, set));
            refused("promise 15: fixing without vertices with " + set, Checks.NO_SUCH, n -> n.fixing(2, set));
        }
        refused("promise 15: fixing an eighth of seven", Checks.NO_SUCH, n -> n.fixing(1, 128));
        refused("promise 22: moves beside an eighth of seven", Checks.NO_SUCH, n -> n.moves(1, 0, 1, 128));
    }

    private static void wrongArguments() {
        for (int colour : NO_COLOURS) {
            refused("promise 2: vertex with " + colour, Checks.ARGUMENT, n -> n.vertex(0, colour));
            refused("promise 2: vertex of an empty graph with " + colour, Checks.ARGUMENT, n -> n.vertex(2, colour));
            refused("promise 2: vertex of a full graph with " + colour, Checks.ARGUMENT, n -> n.vertex(1, colour));
            refused("promise 3: paint with " + colour, Checks.ARGUMENT, n -> n.paint(0, 1, colour));
        }
        for (int v = 0; v < 4; v++) {
            int same = v;
            refused("promise 4: join with " + same, Checks.ARGUMENT, n -> n.join(0, same, same));
            refused("promise 5: part with " + same, Checks.ARGUMENT, n -> n.part(0, same, same));
        }
    }

    private static void wrongStates() {
        for (int colour = 0; colour < 4; colour++) {
            int given = colour;
            refused("promise 2: vertex with " + given, Checks.STATE, n -> n.vertex(1, given));
        }
        refused("promise 4: join", Checks.STATE, n -> n.join(0, 0, 1));
        refused("promise 4: join the other way round", Checks.STATE, n -> n.join(0, 2, 1));
        refused("promise 5: part", Checks.STATE, n -> n.part(0, 0, 2));
        refused("promise 5: part the other way round", Checks.STATE, n -> n.part(0, 3, 0));
    }

    /** On an object of its own each time, as one takes no more than 512 calls. */
    private static void refused(String what, String exception, Function<GraphNamer, Object> call) {
        GraphNamer namer = fourSevenNone();
        String before = Graphs.state(namer);
        CHECKS.thrown(what, exception, () -> call.apply(namer));
        CHECKS.due(what + " that throws changes nothing:", before, Graphs.state(namer));
    }

    /** Graph 0 has four vertices, graph 1 seven, graph 2 none. */
    private static GraphNamer fourSevenNone() {
        GraphNamer namer = Graphs.with(0, new int[] {3, 0, 1, 0}, 0, 1, 1, 2);
        Graphs.build(namer, 1, Graphs.plain(7), Graphs.ring(7));
        return namer;
    }
}
