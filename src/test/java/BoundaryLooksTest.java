/**
 * Each boundary case that the document's sentences name for promises 10 to 22, and for the terms as
 * these calls use them. A case has an object of its own; graph 0 is the one it is about.
 */
public final class BoundaryLooksTest {
    private static final Cases CASES = new Cases();
    private static final int ALL_OF_SEVEN = 127;
    private static final int[] WRONG_GRAPHS = {-1, 3, Integer.MIN_VALUE, Integer.MAX_VALUE};
    /** What is no vertex of seven; the last three are one of them when a shift takes five bits of them. */
    private static final int[] WRONG_OF_SEVEN = {-1, 7, Integer.MIN_VALUE, Integer.MAX_VALUE, 32, 38, -32};
    /** What is no set of seven; the last but one has bits of vertices that are there too. */
    private static final int[] WRONG_SETS = {128, 1 << 30, Integer.MIN_VALUE, -1, Integer.MAX_VALUE, 129, -128};

    public static void main(String[] args) {
        size();
        beside();
        name();
        bitsOfTheCode();
        place();
        automorphisms();
        fixing();
        fixingRefused();
        orbit();
        orbits();
        cell();
        cells();
        orbitsInCells();
        same();
        match();
        matchRefused();
        moves();
        movesRefused();
        CASES.end(10, 22);
    }

    /** "How many vertices a graph has." */
    private static void size() {
        for (int count = 0; count <= 7; count++) {
            CASES.answers(10, "a graph of " + count, count, Graphs.whole(count), n -> n.size(0));
        }
        CASES.answers(10, "the last graph, the first being full", 0, Graphs.bare(7), n -> n.size(2));
        for (int g : WRONG_GRAPHS) {
            CASES.refuses(10, "graph " + g, Checks.NO_SUCH, Graphs.bare(7), n -> n.size(g));
        }
    }

    /** "The vertices with an edge to v." */
    private static void beside() {
        CASES.answers(11, "one vertex", 0, Graphs.bare(1), n -> n.beside(0, 0));
        CASES.answers(11, "no edges of seven", 0, Graphs.bare(7), n -> n.beside(0, 6));
        CASES.answers(11, "all edges of the first, not to itself", 126, Graphs.whole(7), n -> n.beside(0, 0));
        CASES.answers(11, "all edges of the last, not to itself", 63, Graphs.whole(7), n -> n.beside(0, 6));
        CASES.refuses(11, "a vertex of an empty graph", Checks.NO_SUCH, new GraphNamer(), n -> n.beside(0, 0));
        for (int v : WRONG_OF_SEVEN) {
            CASES.refuses(11, "vertex " + v + " of seven", Checks.NO_SUCH, Graphs.whole(7), n -> n.beside(0, v));
        }
        for (int g : WRONG_GRAPHS) {
            CASES.refuses(11, "graph " + g, Checks.NO_SUCH, Graphs.whole(7), n -> n.beside(g, 0));
        }
    }

    /** "The name (0 for less than two vertices)." */
    private static void name() {
        CASES.answers(12, "no vertices", 0, new GraphNamer(), n -> n.name(0));
        CASES.answers(12, "one vertex", 0, Graphs.bare(1), n -> n.name(0));
        CASES.answers(12, "one vertex of the greatest colour", 0, Graphs.with(0, new int[] {3}), n -> n.name(0));
        for (int count = 0; count <= 7; count++) {
            int all = (1 << count * (count - 1) / 2) - 1;
            CASES.answers(12, "no edges of " + count, 0, Graphs.bare(count), n -> n.name(0));
            CASES.answers(12, "all edges of " + count, all, Graphs.whole(count), n -> n.name(0));
        }
        CASES.answers(12, "an empty graph beside a full one", 0, Graphs.whole(7), n -> n.name(1));
        for (int g : WRONG_GRAPHS) {
            CASES.refuses(12, "graph " + g, Checks.NO_SUCH, Graphs.whole(7), n -> n.name(g));
        }
    }

    /** "... counted from the highest of n (n - 1) / 2 bits on (so that the bit of the places 1, 0 counts most) ..." */
    private static void bitsOfTheCode() {
        CASES.answers(12, "the highest bit of seven, places 1, 0", 1 << 20,
                Graphs.with(0, new int[] {0, 0, 1, 1, 1, 1, 1}, 0, 1), n -> n.name(0));
        CASES.answers(12, "the bit behind it, places 2, 0", 1 << 19,
                Graphs.with(0, new int[] {0, 1, 2, 3, 3, 3, 3}, 0, 2), n -> n.name(0));
        CASES.answers(12, "the third, places 2, 1", 1 << 18,
                Graphs.with(0, new int[] {0, 1, 2, 3, 3, 3, 3}, 1, 2), n -> n.name(0));
        CASES.answers(12, "the first bit of the last place, places 6, 0", 1 << 5,
                Graphs.with(0, new int[] {0, 1, 1, 1, 1, 1, 2}, 0, 6), n -> n.name(0));
        CASES.answers(12, "the lowest bit, places 6, 5", 1,
                Graphs.with(0, new int[] {0, 0, 0, 0, 0, 1, 1}, 5, 6), n -> n.name(0));
        CASES.answers(12, "the highest of three", 4, Graphs.with(0, new int[] {0, 0, 1}, 0, 1), n -> n.name(0));
        CASES.answers(12, "colours the other way round: the lowest", 1,
                Graphs.with(0, new int[] {1, 1, 0}, 0, 1), n -> n.name(0));
    }

    /** "... the lesser colour has the lesser place", and of equal codes "the lesser first". */
    private static void place() {
        CASES.answers(13, "one vertex", 0, Graphs.with(0, new int[] {3}), n -> n.place(0, 0));
        for (int vertex = 0; vertex < 7; vertex++) {
            int v = vertex;
            CASES.answers(13, v + " of seven all alike", v, Graphs.bare(7), n -> n.place(0, v));
            CASES.answers(13, v + " of seven with all edges", v, Graphs.whole(7), n -> n.place(0, v));
        }
        CASES.answers(13, "the greatest colour last", 1, Graphs.with(0, new int[] {3, 0}), n -> n.place(0, 0));
        CASES.answers(13, "the least colour first", 0, Graphs.with(0, new int[] {3, 0}), n -> n.place(0, 1));
        CASES.answers(13, "a colour goes before a lesser code", 0,
                Graphs.with(0, new int[] {0, 0, 1}, 0, 1), n -> n.place(0, 0));
        CASES.answers(13, "a lesser code goes before a lesser number", 0,
                Graphs.with(0, Graphs.plain(3), 0, 1), n -> n.place(0, 2));
        CASES.answers(13, "of two rows of one code the lesser, 2 0 1", 1,
                Graphs.with(0, Graphs.plain(3), 0, 1), n -> n.place(0, 0));
        CASES.answers(13, "of the two ends of a path the lesser", 0, pathOfFive(), n -> n.place(0, 0));
        CASES.answers(13, "and the greater behind it", 1, pathOfFive(), n -> n.place(0, 4));
        CASES.refuses(13, "a vertex of an empty graph", Checks.NO_SUCH, new GraphNamer(), n -> n.place(0, 0));
        for (int v : WRONG_OF_SEVEN) {
            CASES.refuses(13, "vertex " + v + " of seven", Checks.NO_SUCH, Graphs.whole(7), n -> n.place(0, v));
        }
        for (int g : WRONG_GRAPHS) {
            CASES.refuses(13, "graph " + g, Checks.NO_SUCH, Graphs.whole(7), n -> n.place(g, 0));
        }
    }

    /** "... (the one that moves nothing among them; 1 without vertices)." */
    private static void automorphisms() {
        int orders = 1;
        for (int count = 0; count <= 7; count++) {
            orders *= count == 0 ? 1 : count;
            CASES.answers(14, "no edges of " + count, orders, Graphs.bare(count), n -> n.automorphisms(0));
            CASES.answers(14, "all edges of " + count, orders, Graphs.whole(count), n -> n.automorphisms(0));
        }
        CASES.answers(14, "only the one that moves nothing", 1, nothingMoves(), n -> n.automorphisms(0));
        CASES.answers(14, "two of different colours", 1, Graphs.with(0, new int[] {0, 3}), n -> n.automorphisms(0));
        for (int g : WRONG_GRAPHS) {
            CASES.refuses(14, "graph " + g, Checks.NO_SUCH, Graphs.whole(7), n -> n.automorphisms(g));
        }
    }

    /** "How many of them give each vertex of a set to itself." */
    private static void fixing() {
        CASES.answers(15, "the empty set of an empty graph", 1, new GraphNamer(), n -> n.fixing(0, 0));
        CASES.answers(15, "the empty set of one", 1, Graphs.bare(1), n -> n.fixing(0, 0));
        CASES.answers(15, "all of one", 1, Graphs.bare(1), n -> n.fixing(0, 1));
        CASES.answers(15, "the empty set of seven", 5040, Graphs.bare(7), n -> n.fixing(0, 0));
        CASES.answers(15, "the first of seven", 720, Graphs.bare(7), n -> n.fixing(0, 1));
        CASES.answers(15, "the last of seven", 720, Graphs.bare(7), n -> n.fixing(0, 64));
        CASES.answers(15, "all but two of seven", 2, Graphs.bare(7), n -> n.fixing(0, ALL_OF_SEVEN - 65));
        CASES.answers(15, "all but one of seven", 1, Graphs.bare(7), n -> n.fixing(0, ALL_OF_SEVEN - 1));
        CASES.answers(15, "all of seven", 1, Graphs.whole(7), n -> n.fixing(0, ALL_OF_SEVEN));
        CASES.answers(15, "one that stays anyway", 2, Graphs.with(0, new int[] {0, 0, 3}), n -> n.fixing(0, 4));
    }

    private static void fixingRefused() {
        for (int set : WRONG_SETS) {
            CASES.refuses(15, "set " + set + " of seven", Checks.NO_SUCH, Graphs.bare(7), n -> n.fixing(0, set));
        }
        for (int count = 0; count <= 7; count++) {
            int behind = 1 << count;
            CASES.refuses(15, "the one behind " + count, Checks.NO_SUCH, Graphs.bare(count),
                    n -> n.fixing(0, behind));
            CASES.refuses(15, "all and the one behind " + count, Checks.NO_SUCH, Graphs.bare(count),
                    n -> n.fixing(0, 2 * behind - 1));
        }
        for (int g : WRONG_GRAPHS) {
            CASES.refuses(15, "graph " + g, Checks.NO_SUCH, Graphs.whole(7), n -> n.fixing(g, 0));
        }
    }

    /** "The orbit of a vertex." */
    private static void orbit() {
        CASES.answers(16, "one vertex", 1, Graphs.bare(1), n -> n.orbit(0, 0));
        CASES.answers(16, "all of seven, from the first", ALL_OF_SEVEN, Graphs.bare(7), n -> n.orbit(0, 0));
        CASES.answers(16, "all of seven, from the last", ALL_OF_SEVEN, Graphs.whole(7), n -> n.orbit(0, 6));
        CASES.answers(16, "it alone, where nothing moves", 32, nothingMoves(), n -> n.orbit(0, 5));
        CASES.answers(16, "it alone, by its colour", 2, Graphs.with(0, new int[] {0, 3}), n -> n.orbit(0, 1));
        CASES.refuses(16, "a vertex of an empty graph", Checks.NO_SUCH, new GraphNamer(), n -> n.orbit(0, 0));
        for (int v : WRONG_OF_SEVEN) {
            CASES.refuses(16, "vertex " + v + " of seven", Checks.NO_SUCH, Graphs.whole(7), n -> n.orbit(0, v));
        }
        for (int g : WRONG_GRAPHS) {
            CASES.refuses(16, "graph " + g, Checks.NO_SUCH, Graphs.whole(7), n -> n.orbit(g, 0));
        }
    }

    /** "How many orbits there are." */
    private static void orbits() {
        CASES.answers(17, "no vertices", 0, new GraphNamer(), n -> n.orbits(0));
        CASES.answers(17, "one vertex", 1, Graphs.bare(1), n -> n.orbits(0));
        CASES.answers(17, "no edges of seven", 1, Graphs.bare(7), n -> n.orbits(0));
        CASES.answers(17, "all edges of seven", 1, Graphs.whole(7), n -> n.orbits(0));
        CASES.answers(17, "as many as vertices", 7, nothingMoves(), n -> n.orbits(0));
        for (int g : WRONG_GRAPHS) {
            CASES.refuses(17, "graph " + g, Checks.NO_SUCH, Graphs.whole(7), n -> n.orbits(g));
        }
    }

    /** "... at first by colours; as long as two vertices of one cell have edges to different numbers ..." */
    private static void cell() {
        CASES.answers(18, "one vertex", 1, Graphs.bare(1), n -> n.cell(0, 0));
        CASES.answers(18, "no edges of seven", ALL_OF_SEVEN, Graphs.bare(7), n -> n.cell(0, 6));
        CASES.answers(18, "all edges of seven", ALL_OF_SEVEN, Graphs.whole(7), n -> n.cell(0, 0));
        CASES.answers(18, "colours alone part", 2, Graphs.with(0, new int[] {0, 3, 0}), n -> n.cell(0, 1));
        CASES.answers(18, "one edge more parts", 4, Graphs.with(0, Graphs.plain(3), 0, 1), n -> n.cell(0, 2));
        CASES.answers(18, "an edge to a cell of one parts", 2,
                Graphs.with(0, new int[] {3, 0, 0}, 0, 1), n -> n.cell(0, 1));
        CASES.answers(18, "the last round parts the middle of seven", 8,
                Graphs.with(0, Graphs.plain(7), 0, 1, 1, 2, 2, 3, 3, 4, 4, 5, 5, 6), n -> n.cell(0, 3));
        CASES.answers(18, "those that agree for all cells stay together", ALL_OF_SEVEN, twoRings(),
                n -> n.cell(0, 0));
        CASES.answers(18, "even those that no automorphism gives to one another", 120, twoRings(),
                n -> n.orbit(0, 6));
        CASES.refuses(18, "a vertex of an empty graph", Checks.NO_SUCH, new GraphNamer(), n -> n.cell(0, 0));
        for (int v : WRONG_OF_SEVEN) {
            CASES.refuses(18, "vertex " + v + " of seven", Checks.NO_SUCH, Graphs.whole(7), n -> n.cell(0, v));
        }
        for (int g : WRONG_GRAPHS) {
            CASES.refuses(18, "graph " + g, Checks.NO_SUCH, Graphs.whole(7), n -> n.cell(g, 0));
        }
    }

    /** "How many cells there are." */
    private static void cells() {
        CASES.answers(19, "no vertices", 0, new GraphNamer(), n -> n.cells(0));
        CASES.answers(19, "one vertex", 1, Graphs.bare(1), n -> n.cells(0));
        CASES.answers(19, "no edges of seven", 1, Graphs.bare(7), n -> n.cells(0));
        CASES.answers(19, "all edges of seven", 1, Graphs.whole(7), n -> n.cells(0));
        CASES.answers(19, "all four colours", 4, Graphs.with(0, new int[] {0, 1, 2, 3, 3, 2, 1}), n -> n.cells(0));
        CASES.answers(19, "as many as vertices", 7, nothingMoves(), n -> n.cells(0));
        for (int g : WRONG_GRAPHS) {
            CASES.refuses(19, "graph " + g, Checks.NO_SUCH, Graphs.whole(7), n -> n.cells(g));
        }
    }

    /** "... vertices of an orbit are in one cell." Here for all edges of five. */
    private static void orbitsInCells() {
        for (int edges = 0; edges < 1 << 10; edges++) {
            GraphNamer namer = fiveWith(edges);
            CASES.answers(18, "orbits in their cells, edges " + edges, true, namer, BoundaryLooksTest::orbitsFit);
        }
    }

    private static boolean orbitsFit(GraphNamer namer) {
        boolean fit = true;
        for (int v = 0; v < namer.size(0); v++) {
            fit &= (namer.orbit(0, v) & ~namer.cell(0, v)) == 0;
        }
        return fit;
    }

    /** "Whether two graphs are the same." */
    private static void same() {
        CASES.answers(20, "two empty graphs", true, new GraphNamer(), n -> n.same(0, 2));
        CASES.answers(20, "an empty graph with itself", true, new GraphNamer(), n -> n.same(1, 1));
        CASES.answers(20, "a full graph with itself", true, Graphs.whole(7), n -> n.same(0, 0));
        CASES.answers(20, "an empty graph and one vertex", false, Graphs.bare(1), n -> n.same(1, 0));
        CASES.answers(20, "one vertex and an empty graph", false, Graphs.bare(1), n -> n.same(0, 1));
        CASES.answers(20, "six and seven, no edges", false, two(Graphs.plain(6), Graphs.plain(7)),
                n -> n.same(0, 1));
        CASES.answers(20, "one vertex, the least and the greatest colour", false, two(new int[] {0}, new int[] {3}),
                n -> n.same(0, 1));
        CASES.answers(20, "colours in another order", true, two(new int[] {0, 3}, new int[] {3, 0}),
                n -> n.same(0, 1));
        CASES.answers(20, "as many colours, not as often", false, two(new int[] {0, 0, 3}, new int[] {0, 3, 3}),
                n -> n.same(0, 1));
        for (int g : WRONG_GRAPHS) {
            CASES.refuses(20, "graph " + g + " and one", Checks.NO_SUCH, Graphs.bare(7), n -> n.same(g, 0));
            CASES.refuses(20, "one and graph " + g, Checks.NO_SUCH, Graphs.bare(7), n -> n.same(0, g));
            CASES.refuses(20, "graph " + g + " and itself", Checks.NO_SUCH, Graphs.bare(7), n -> n.same(g, g));
        }
    }

    /** "The vertex of graph h that has the place ... ; NONE when they aren't the same." */
    private static void match() {
        CASES.answers(21, "one vertex and one", 0, two(new int[] {3}, new int[] {3}), n -> n.match(0, 1, 0));
        CASES.answers(21, "the last of seven with itself", 6, Graphs.whole(7), n -> n.match(0, 0, 6));
        CASES.answers(21, "the last of seven is the first of them there", 0, lastAndFirst(), n -> n.match(0, 1, 6));
        CASES.answers(21, "the first of seven is the second there", 1, lastAndFirst(), n -> n.match(0, 1, 0));
        CASES.answers(21, "with an empty graph", GraphNamer.NONE, Graphs.bare(1), n -> n.match(0, 1, 0));
        CASES.answers(21, "one colour that is another", GraphNamer.NONE, two(new int[] {0}, new int[] {3}),
                n -> n.match(0, 1, 0));
        CASES.answers(21, "six and seven", GraphNamer.NONE, two(Graphs.plain(6), Graphs.plain(7)),
                n -> n.match(0, 1, 5));
        CASES.answers(21, "the vertex isn't in graph h", GraphNamer.NONE, two(Graphs.plain(7), Graphs.plain(6)),
                n -> n.match(0, 1, 6));
    }

    private static void matchRefused() {
        CASES.refuses(21, "two empty graphs", Checks.NO_SUCH, new GraphNamer(), n -> n.match(0, 1, 0));
        CASES.refuses(21, "a vertex that is in graph h alone", Checks.NO_SUCH, two(Graphs.plain(6), Graphs.plain(7)),
                n -> n.match(0, 1, 6));
        CASES.refuses(21, "no vertex, not the same", Checks.NO_SUCH, Graphs.bare(7), n -> n.match(1, 0, 0));
        for (int v : WRONG_OF_SEVEN) {
            CASES.refuses(21, "vertex " + v + " of seven", Checks.NO_SUCH, Graphs.whole(7), n -> n.match(0, 0, v));
        }
        for (int g : WRONG_GRAPHS) {
            CASES.refuses(21, "graph " + g + " and one", Checks.NO_SUCH, Graphs.bare(7), n -> n.match(g, 0, 0));
            CASES.refuses(21, "one and graph " + g, Checks.NO_SUCH, Graphs.bare(7), n -> n.match(0, g, 0));
        }
    }

    /** "Whether there is an automorphism that gives v to w and leaves each vertex of a set as it is." */
    private static void moves() {
        CASES.answers(22, "one vertex to itself", true, Graphs.bare(1), n -> n.moves(0, 0, 0, 0));
        CASES.answers(22, "one vertex to itself, and it stays", true, Graphs.bare(1), n -> n.moves(0, 0, 0, 1));
        CASES.answers(22, "to itself where nothing moves", true, nothingMoves(), n -> n.moves(0, 6, 6, 0));
        CASES.answers(22, "to itself and all stay", true, Graphs.whole(7), n -> n.moves(0, 6, 6, ALL_OF_SEVEN));
        CASES.answers(22, "the first to the last, none stays", true, Graphs.bare(7), n -> n.moves(0, 0, 6, 0));
        CASES.answers(22, "the first to the last, all others stay", true, Graphs.whole(7), n -> n.moves(0, 0, 6, 62));
        CASES.answers(22, "the first to the last, and the first stays", false, Graphs.whole(7),
                n -> n.moves(0, 0, 6, 1));
        CASES.answers(22, "the first to the last, and the last stays", false, Graphs.whole(7),
                n -> n.moves(0, 0, 6, 64));
        CASES.answers(22, "the first to the last, and all stay", false, Graphs.whole(7),
                n -> n.moves(0, 0, 6, ALL_OF_SEVEN));
        CASES.answers(22, "to another colour", false, Graphs.with(0, new int[] {0, 3}), n -> n.moves(0, 0, 1, 0));
        CASES.answers(22, "an edge to one that stays is lost", false, pathOfFive(), n -> n.moves(0, 1, 3, 1));
        CASES.answers(22, "in one cell, not in one orbit", false, twoRings(), n -> n.moves(0, 0, 6, 0));
    }

    private static void movesRefused() {
        CASES.refuses(22, "in an empty graph", Checks.NO_SUCH, new GraphNamer(), n -> n.moves(0, 0, 0, 0));
        CASES.refuses(22, "a set of an empty graph", Checks.NO_SUCH, new GraphNamer(), n -> n.moves(0, 0, 0, 1));
        for (int v : WRONG_OF_SEVEN) {
            CASES.refuses(22, "from vertex " + v, Checks.NO_SUCH, Graphs.whole(7), n -> n.moves(0, v, 0, 0));
            CASES.refuses(22, "to vertex " + v, Checks.NO_SUCH, Graphs.whole(7), n -> n.moves(0, 0, v, 0));
            CASES.refuses(22, "vertex " + v + " to itself", Checks.NO_SUCH, Graphs.whole(7), n -> n.moves(0, v, v, 0));
        }
        for (int set : WRONG_SETS) {
            CASES.refuses(22, "set " + set, Checks.NO_SUCH, Graphs.whole(7), n -> n.moves(0, 0, 6, set));
            CASES.refuses(22, "to itself, set " + set, Checks.NO_SUCH, Graphs.whole(7), n -> n.moves(0, 6, 6, set));
        }
        for (int g : WRONG_GRAPHS) {
            CASES.refuses(22, "graph " + g, Checks.NO_SUCH, Graphs.whole(7), n -> n.moves(g, 0, 0, 0));
        }
    }

    /** A path of six with the seventh off its third: only the automorphism that moves nothing. */
    private static GraphNamer nothingMoves() {
        return Graphs.with(0, Graphs.plain(7), 0, 1, 1, 2, 2, 3, 3, 4, 4, 5, 2, 6);
    }

    private static GraphNamer pathOfFive() {
        return Graphs.with(0, Graphs.plain(5), 0, 1, 1, 2, 2, 3, 3, 4);
    }

    /** A ring of three and one of four: each vertex has two edges. */
    private static GraphNamer twoRings() {
        return Graphs.with(0, Graphs.plain(7), 0, 1, 1, 2, 2, 0, 3, 4, 4, 5, 5, 6, 6, 3);
    }

    /** Graphs 0 and 1 with these colours, without edges. */
    private static GraphNamer two(int[] colours, int[] others) {
        GraphNamer namer = Graphs.with(0, colours);
        Graphs.build(namer, 1, others);
        return namer;
    }

    /** Seven vertices in graphs 0 and 1; the greatest colour has the last of the one, the first of the other. */
    private static GraphNamer lastAndFirst() {
        return two(new int[] {0, 0, 0, 0, 0, 0, 3}, new int[] {3, 0, 0, 0, 0, 0, 0});
    }

    /** Five vertices with an edge for each bit. */
    private static GraphNamer fiveWith(int edges) {
        GraphNamer namer = Graphs.bare(5);
        int bit = 0;
        for (int v = 0; v < 5; v++) {
            for (int w = 0; w < v; w++, bit++) {
                if ((edges >> bit & 1) == 1) {
                    namer.join(0, v, w);
                }
            }
        }
        return namer;
    }
}
