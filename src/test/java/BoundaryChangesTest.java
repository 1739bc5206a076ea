/**
 * Each boundary case that the document's sentences name for promises 1 to 9, and for the terms as
 * these calls use them. A case has an object of its own; graph 0 is the one it is about.
 */
public final class BoundaryChangesTest {
    private static final Cases CASES = new Cases();
    private static final String SEVEN_BARE = "0: 0/0 0/0 0/0 0/0 0/0 0/0 0/0\n1:\n2:\n";
    private static final String SEVEN_WHOLE = "0: 0/126 0/125 0/123 0/119 0/111 0/95 0/63\n1:\n2:\n";
    private static final String NOTHING = "0:\n1:\n2:\n";

    public static void main(String[] args) {
        newObject();
        callsOfAnObject();
        vertexNumbers();
        vertexColours();
        vertexRefused();
        paint();
        paintRefused();
        join();
        joinRefused();
        part();
        partRefused();
        clear();
        copy();
        turn();
        settle();
        CASES.end(1, 9);
    }

    /** "Three graphs without vertices." */
    private static void newObject() {
        CASES.leaves(1, "nothing done", NOTHING, new GraphNamer(), n -> 0);
        for (int graph = 0; graph < 3; graph++) {
            int g = graph;
            CASES.answers(1, "no vertex in graph " + g, 0, new GraphNamer(), n -> n.size(g));
            CASES.refuses(1, "not even vertex 0 in graph " + g, Checks.NO_SUCH, new GraphNamer(), n -> n.beside(g, 0));
            CASES.answers(1, "graph " + g + " is the same as graph 2", true, new GraphNamer(), n -> n.same(g, 2));
        }
        CASES.refuses(1, "no graph below 0", Checks.NO_SUCH, new GraphNamer(), n -> n.size(-1));
        CASES.refuses(1, "no fourth graph", Checks.NO_SUCH, new GraphNamer(), n -> n.size(3));
        CASES.leaves(1, "another object's vertices", NOTHING, new GraphNamer(), n -> Graphs.whole(7));
    }

    /** "An object is used for at most 512 calls after it has been made." */
    private static void callsOfAnObject() {
        CASES.answers(1, "the 512th call, behind dear ones", 220, new GraphNamer(), n -> afterDearCalls());
        CASES.answers(1, "the 512th call, behind refused ones", 0, new GraphNamer(), n -> afterRefusedCalls());
    }

    private static Object afterDearCalls() {
        GraphNamer namer = Graphs.with(0, Graphs.plain(5), Graphs.ring(5));
        // Building took eleven calls: one to clear, five vertices and five edges.
        for (int made = 11; made < 511; made++) {
            if (made % 2 == 0) {
                namer.settle(0);
            } else {
                namer.match(0, 0, 4);
            }
        }
        return namer.name(0);
    }

    private static Object afterRefusedCalls() {
        GraphNamer namer = new GraphNamer();
        for (int made = 0; made < 511; made++) {
            Checks.outcome(() -> namer.vertex(0, 4));
        }
        return namer.vertex(0, 3);
    }

    /** "A new vertex with a colour; answers its number." */
    private static void vertexNumbers() {
        for (int count = 0; count < 7; count++) {
            CASES.answers(2, "a vertex beside " + count, count, Graphs.bare(count), n -> n.vertex(0, 0));
        }
        for (int graph = 0; graph < 3; graph++) {
            int g = graph;
            CASES.answers(2, "a first vertex in graph " + g, 0, new GraphNamer(), n -> n.vertex(g, 0));
        }
        CASES.answers(2, "a first one when another graph is full", 0, Graphs.bare(7), n -> n.vertex(1, 0));
        CASES.answers(2, "a seventh one when the others are full", 6, threeFull(6), n -> n.vertex(0, 0));
        CASES.leaves(2, "a first one", "0: 2/0\n1:\n2:\n", new GraphNamer(), n -> n.vertex(0, 2));
        CASES.leaves(2, "a seventh one", SEVEN_BARE, Graphs.bare(6), n -> n.vertex(0, 0));
        CASES.leaves(2, "a new one beside all edges has none", "0: 0/2 0/1 0/0\n1:\n2:\n", Graphs.whole(2),
                n -> n.vertex(0, 0));
        CASES.answers(2, "a first one again in a graph that was full", 0, cleared(), n -> n.vertex(0, 0));
        CASES.leaves(2, "it has no edge of the one before it", "0: 1/0\n1:\n2:\n", cleared(), n -> n.vertex(0, 1));
        CASES.leaves(2, "nor after a smaller graph was copied there", "0: 1/0\n1:\n2:\n", overwritten(),
                n -> n.vertex(0, 1));
    }

    /** "IllegalArgument: the colour is not 0 .. 3." */
    private static void vertexColours() {
        for (int colour = 0; colour <= 3; colour++) {
            int c = colour;
            CASES.leaves(2, "colour " + c, "0: " + c + "/0\n1:\n2:\n", new GraphNamer(), n -> n.vertex(0, c));
        }
        for (int colour : new int[] {-1, 4, 32, Integer.MIN_VALUE, Integer.MAX_VALUE}) {
            CASES.refuses(2, "colour " + colour, Checks.ARGUMENT, new GraphNamer(), n -> n.vertex(0, colour));
            CASES.refuses(2, "colour " + colour + " in a full graph", Checks.ARGUMENT, Graphs.bare(7),
                    n -> n.vertex(0, colour));
            CASES.refuses(2, "colour " + colour + " in no graph", Checks.NO_SUCH, new GraphNamer(),
                    n -> n.vertex(3, colour));
        }
    }

    /** "IllegalState: there are 7." */
    private static void vertexRefused() {
        for (int colour = 0; colour <= 3; colour++) {
            int c = colour;
            CASES.refuses(2, "an eighth one of colour " + c, Checks.STATE, Graphs.bare(7), n -> n.vertex(0, c));
        }
        for (int graph = 0; graph < 3; graph++) {
            int g = graph;
            CASES.refuses(2, "an eighth one in graph " + g, Checks.STATE, threeFull(7), n -> n.vertex(g, 0));
        }
        CASES.refuses(2, "an eighth one beside all edges", Checks.STATE, Graphs.whole(7), n -> n.vertex(0, 0));
        CASES.refuses(2, "in graph -1 while all are full", Checks.NO_SUCH, threeFull(7), n -> n.vertex(-1, 0));
        CASES.refuses(2, "in graph 3 while all are full", Checks.NO_SUCH, threeFull(7), n -> n.vertex(3, 0));
    }

    /** "Another colour for a vertex; answers the one that it had." */
    private static void paint() {
        for (int colour = 0; colour <= 3; colour++) {
            int c = colour;
            CASES.answers(3, "from colour " + c, c, Graphs.with(0, new int[] {c}), n -> n.paint(0, 0, 1));
            CASES.leaves(3, "to colour " + c, "0: " + c + "/0\n1:\n2:\n", Graphs.bare(1), n -> n.paint(0, 0, c));
        }
        CASES.answers(3, "the colour that it has", 3, Graphs.with(0, new int[] {3}), n -> n.paint(0, 0, 3));
        CASES.leaves(3, "the colour that it has", "0: 3/0\n1:\n2:\n", Graphs.with(0, new int[] {3}),
                n -> n.paint(0, 0, 3));
        CASES.answers(3, "the last of seven", 0, Graphs.bare(7), n -> n.paint(0, 6, 3));
        CASES.leaves(3, "the last of three, its edges stay", "0: 0/6 0/5 3/3\n1:\n2:\n", Graphs.whole(3),
                n -> n.paint(0, 2, 3));
    }

    /** "IllegalArgument: not 0 .. 3." */
    private static void paintRefused() {
        for (int colour : new int[] {-1, 4, 32, Integer.MIN_VALUE, Integer.MAX_VALUE}) {
            CASES.refuses(3, "colour " + colour, Checks.ARGUMENT, Graphs.whole(3), n -> n.paint(0, 2, colour));
            CASES.refuses(3, "colour " + colour + " for no vertex", Checks.NO_SUCH, Graphs.whole(3),
                    n -> n.paint(0, 3, colour));
        }
        CASES.refuses(3, "a vertex of an empty graph", Checks.NO_SUCH, new GraphNamer(), n -> n.paint(0, 0, 0));
        CASES.refuses(3, "vertex -1", Checks.NO_SUCH, Graphs.bare(7), n -> n.paint(0, -1, 0));
        CASES.refuses(3, "an eighth of seven", Checks.NO_SUCH, Graphs.bare(7), n -> n.paint(0, 7, 0));
        CASES.refuses(3, "a vertex of another graph", Checks.NO_SUCH, Graphs.bare(7), n -> n.paint(1, 0, 0));
    }

    /** "An edge comes; answers how many there are then." */
    private static void join() {
        CASES.answers(4, "the first edge", 1, Graphs.bare(2), n -> n.join(0, 0, 1));
        CASES.leaves(4, "the first edge", "0: 0/2 0/1\n1:\n2:\n", Graphs.bare(2), n -> n.join(0, 1, 0));
        CASES.answers(4, "the last edge of seven", 21, withoutOneEdge(), n -> n.join(0, 6, 5));
        CASES.leaves(4, "the last edge of seven", SEVEN_WHOLE, withoutOneEdge(), n -> n.join(0, 5, 6));
        CASES.answers(4, "the least and the greatest number", 1, Graphs.bare(7), n -> n.join(0, 0, 6));
        CASES.answers(4, "an edge that went before", 21, withoutOneEdge(), n -> n.join(0, 5, 6));
    }

    /** "IllegalArgument: the vertices are not different; IllegalState: it is there." */
    private static void joinRefused() {
        for (int vertex = 0; vertex < 7; vertex++) {
            int v = vertex;
            CASES.refuses(4, v + " with itself", Checks.ARGUMENT, Graphs.bare(7), n -> n.join(0, v, v));
            CASES.refuses(4, v + " with itself, all edges there", Checks.ARGUMENT, Graphs.whole(7),
                    n -> n.join(0, v, v));
        }
        CASES.refuses(4, "an edge that is there", Checks.STATE, Graphs.whole(2), n -> n.join(0, 0, 1));
        CASES.refuses(4, "it is there from its other end too", Checks.STATE, Graphs.whole(2), n -> n.join(0, 1, 0));
        CASES.refuses(4, "one more where all are there", Checks.STATE, Graphs.whole(7), n -> n.join(0, 6, 5));
        CASES.refuses(4, "with an eighth of seven", Checks.NO_SUCH, Graphs.whole(7), n -> n.join(0, 0, 7));
        CASES.refuses(4, "an eighth of seven with one", Checks.NO_SUCH, Graphs.whole(7), n -> n.join(0, 7, 0));
        CASES.refuses(4, "with vertex -1", Checks.NO_SUCH, Graphs.bare(2), n -> n.join(0, 0, -1));
        CASES.refuses(4, "vertex -1 with one", Checks.NO_SUCH, Graphs.bare(2), n -> n.join(0, -1, 0));
        CASES.refuses(4, "a vertex that isn't there with itself", Checks.NO_SUCH, Graphs.bare(2),
                n -> n.join(0, 2, 2));
        CASES.refuses(4, "in an empty graph", Checks.NO_SUCH, new GraphNamer(), n -> n.join(0, 0, 1));
        CASES.refuses(4, "one vertex alone", Checks.NO_SUCH, Graphs.bare(1), n -> n.join(0, 0, 1));
    }

    /** "An edge goes; answers how many there are then." */
    private static void part() {
        CASES.answers(5, "the only edge", 0, Graphs.whole(2), n -> n.part(0, 0, 1));
        CASES.leaves(5, "the only edge, from its other end", "0: 0/0 0/0\n1:\n2:\n", Graphs.whole(2),
                n -> n.part(0, 1, 0));
        CASES.answers(5, "one of all edges", 20, Graphs.whole(7), n -> n.part(0, 6, 0));
        CASES.leaves(5, "one of all edges", "0: 0/62 0/125 0/123 0/119 0/111 0/95 0/62\n1:\n2:\n", Graphs.whole(7),
                n -> n.part(0, 0, 6));
    }

    /** "IllegalArgument: the vertices are not different; IllegalState: it isn't there." */
    private static void partRefused() {
        for (int vertex = 0; vertex < 7; vertex++) {
            int v = vertex;
            CASES.refuses(5, v + " from itself", Checks.ARGUMENT, Graphs.whole(7), n -> n.part(0, v, v));
            CASES.refuses(5, v + " from itself, no edges there", Checks.ARGUMENT, Graphs.bare(7),
                    n -> n.part(0, v, v));
        }
        CASES.refuses(5, "an edge that isn't there", Checks.STATE, Graphs.bare(2), n -> n.part(0, 0, 1));
        CASES.refuses(5, "an edge that went before", Checks.STATE, withoutOneEdge(), n -> n.part(0, 5, 6));
        CASES.refuses(5, "nor is it from its other end", Checks.STATE, withoutOneEdge(), n -> n.part(0, 6, 5));
        CASES.refuses(5, "from an eighth of seven", Checks.NO_SUCH, Graphs.whole(7), n -> n.part(0, 0, 7));
        CASES.refuses(5, "an eighth of seven from one", Checks.NO_SUCH, Graphs.whole(7), n -> n.part(0, 7, 0));
        CASES.refuses(5, "from vertex -1", Checks.NO_SUCH, Graphs.whole(2), n -> n.part(0, 0, -1));
        CASES.refuses(5, "vertex -1 from one", Checks.NO_SUCH, Graphs.whole(2), n -> n.part(0, -1, 0));
        CASES.refuses(5, "a vertex that isn't there from itself", Checks.NO_SUCH, Graphs.whole(2),
                n -> n.part(0, 2, 2));
        CASES.refuses(5, "in an empty graph", Checks.NO_SUCH, new GraphNamer(), n -> n.part(0, 0, 1));
    }

    /** "A graph loses all vertices and edges; answers how many vertices it had." */
    private static void clear() {
        for (int count = 0; count <= 7; count++) {
            CASES.answers(6, "a graph of " + count, count, Graphs.whole(count), n -> n.clear(0));
            CASES.leaves(6, "a graph of " + count, NOTHING, Graphs.whole(count), n -> n.clear(0));
        }
        CASES.answers(6, "one that was cleared", 0, cleared(), n -> n.clear(0));
        CASES.leaves(6, "another graph", SEVEN_WHOLE, Graphs.whole(7), n -> n.clear(1));
        CASES.leaves(6, "its edges don't come again with its vertices", SEVEN_BARE, cleared(), n -> addPlain(n, 7));
        CASES.refuses(6, "graph -1", Checks.NO_SUCH, Graphs.whole(7), n -> n.clear(-1));
        CASES.refuses(6, "graph 3", Checks.NO_SUCH, Graphs.whole(7), n -> n.clear(3));
    }

    /** "Graph g becomes what graph h is; answers its vertices." */
    private static void copy() {
        CASES.answers(7, "an empty graph onto an empty one", 0, new GraphNamer(), n -> n.copy(0, 1));
        CASES.answers(7, "an empty graph onto a full one", 0, Graphs.whole(7), n -> n.copy(0, 1));
        CASES.leaves(7, "an empty graph onto a full one", NOTHING, Graphs.whole(7), n -> n.copy(0, 1));
        CASES.answers(7, "a full graph onto an empty one", 7, Graphs.whole(7), n -> n.copy(2, 0));
        CASES.leaves(7, "a full graph onto itself", SEVEN_WHOLE, Graphs.whole(7), n -> n.copy(0, 0));
        CASES.answers(7, "a full graph onto itself", 7, Graphs.whole(7), n -> n.copy(0, 0));
        CASES.leaves(7, "the least and greatest colours", "0: 0/2 3/1\n1: 0/2 3/1\n2:\n",
                Graphs.with(0, new int[] {0, 3}, 0, 1), n -> n.copy(1, 0));
        CASES.leaves(7, "and then its own way", "0: 0/2 0/1\n1: 0/0 0/0\n2:\n", Graphs.whole(2),
                n -> n.copy(1, 0) + n.part(1, 0, 1));
        CASES.leaves(7, "vertices behind a copy that is smaller", "0: 0/0 0/0 0/0\n1: 0/0\n2:\n", overSeven(),
                n -> n.copy(0, 1) + n.vertex(0, 0) + n.vertex(0, 0));
        for (int g : new int[] {-1, 3}) {
            CASES.refuses(7, "onto graph " + g, Checks.NO_SUCH, Graphs.whole(7), n -> n.copy(g, 0));
            CASES.refuses(7, "from graph " + g, Checks.NO_SUCH, Graphs.whole(7), n -> n.copy(0, g));
            CASES.refuses(7, "graph " + g + " onto itself", Checks.NO_SUCH, Graphs.whole(7), n -> n.copy(g, g));
        }
    }

    /** "Graph g gets its edges where it had none, and none where it had them; answers how many there are then." */
    private static void turn() {
        for (int count = 0; count <= 7; count++) {
            int all = count * (count - 1) / 2;
            CASES.answers(8, "no edges of " + count, all, Graphs.bare(count), n -> n.turn(0));
            CASES.answers(8, "all edges of " + count, 0, Graphs.whole(count), n -> n.turn(0));
        }
        CASES.leaves(8, "an empty graph", NOTHING, new GraphNamer(), n -> n.turn(0));
        CASES.leaves(8, "one vertex gets no edge to itself", "0: 0/0\n1:\n2:\n", Graphs.bare(1), n -> n.turn(0));
        CASES.leaves(8, "no edges of seven", SEVEN_WHOLE, Graphs.bare(7), n -> n.turn(0));
        CASES.leaves(8, "all edges of seven", SEVEN_BARE, Graphs.whole(7), n -> n.turn(0));
        CASES.leaves(8, "twice", SEVEN_WHOLE, Graphs.whole(7), n -> n.turn(0) + n.turn(0));
        CASES.leaves(8, "a vertex that comes later has no edges", "0: 3/2 3/1 0/0\n1:\n2:\n",
                Graphs.with(0, new int[] {3, 3}), n -> n.turn(0) + n.vertex(0, 0));
        CASES.refuses(8, "graph -1", Checks.NO_SUCH, Graphs.whole(7), n -> n.turn(-1));
        CASES.refuses(8, "graph 3", Checks.NO_SUCH, Graphs.whole(7), n -> n.turn(3));
    }

    /** "The vertices of graph g get the numbers that are their places in the first numbering; ..." */
    private static void settle() {
        CASES.answers(9, "an empty graph", 0, new GraphNamer(), n -> n.settle(0));
        CASES.leaves(9, "an empty graph", NOTHING, new GraphNamer(), n -> n.settle(0));
        CASES.answers(9, "one vertex", 0, Graphs.with(0, new int[] {3}), n -> n.settle(0));
        CASES.answers(9, "two that change numbers", 2, Graphs.with(0, new int[] {3, 0}), n -> n.settle(0));
        CASES.leaves(9, "two that change numbers", "0: 0/0 3/0\n1:\n2:\n", Graphs.with(0, new int[] {3, 0}),
                n -> n.settle(0));
        CASES.answers(9, "seven all alike", 0, Graphs.bare(7), n -> n.settle(0));
        CASES.answers(9, "seven with all edges", 0, Graphs.whole(7), n -> n.settle(0));
        CASES.leaves(9, "seven with all edges", SEVEN_WHOLE, Graphs.whole(7), n -> n.settle(0));
        CASES.answers(9, "all seven get another number", 7, Graphs.with(0, new int[] {1, 0, 0, 0, 0, 0, 0}),
                n -> n.settle(0));
        CASES.answers(9, "none behind the first time", 0, settled(), n -> n.settle(0));
        CASES.leaves(9, "edges and colours go along", "0: 0/0 0/4 3/2\n1:\n2:\n", settled(), n -> n.settle(0));
        CASES.refuses(9, "graph -1", Checks.NO_SUCH, Graphs.with(0, new int[] {3, 0}), n -> n.settle(-1));
        CASES.refuses(9, "graph 3", Checks.NO_SUCH, Graphs.with(0, new int[] {3, 0}), n -> n.settle(3));
    }

    /** Graph 0 has so many vertices, the others have seven. */
    private static GraphNamer threeFull(int count) {
        GraphNamer namer = Graphs.bare(count);
        Graphs.build(namer, 1, Graphs.plain(7));
        Graphs.build(namer, 2, Graphs.plain(7));
        return namer;
    }

    /** Graph 0 had seven vertices with all edges. */
    private static GraphNamer cleared() {
        GraphNamer namer = Graphs.whole(7);
        namer.clear(0);
        return namer;
    }

    /** Graph 0 had seven vertices with all edges, before it became what graph 1 is: empty. */
    private static GraphNamer overwritten() {
        GraphNamer namer = Graphs.whole(7);
        namer.copy(0, 1);
        return namer;
    }

    /** Graph 0 has seven vertices with all edges, graph 1 has one vertex. */
    private static GraphNamer overSeven() {
        GraphNamer namer = Graphs.whole(7);
        namer.vertex(1, 0);
        return namer;
    }

    /** All edges of seven but that of 5 and 6, which was there and went. */
    private static GraphNamer withoutOneEdge() {
        GraphNamer namer = Graphs.whole(7);
        namer.part(0, 5, 6);
        return namer;
    }

    private static GraphNamer settled() {
        GraphNamer namer = Graphs.with(0, new int[] {3, 0, 0}, 0, 1);
        namer.settle(0);
        return namer;
    }

    private static int addPlain(GraphNamer namer, int count) {
        int last = GraphNamer.NONE;
        for (int i = 0; i < count; i++) {
            last = namer.vertex(0, 0);
        }
        return last;
    }
}
