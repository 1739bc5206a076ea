import java.util.NoSuchElementException;

/**
 * Graphs with coloured vertices: which are the same but for the numbers of their vertices, a name
 * that is the same for all of these, and how a graph can be laid onto itself.
 */
public final class GraphNamer {
    public static final int NONE = -1;

    private static final int GRAPHS = 3;
    private static final int MOST_VERTICES = 7;
    private static final int COLOURS = 4;

    private final Graph[] graphs;
    private final Graph spare;
    private final Numbering numbering;
    private final Numbering otherNumbering;
    private final Laying laying;
    private final Parting parting;

    public GraphNamer() {
        graphs = new Graph[GRAPHS];
        for (int g = 0; g < GRAPHS; g++) {
            graphs[g] = new Graph();
        }
        spare = new Graph();
        numbering = new Numbering();
        otherNumbering = new Numbering();
        laying = new Laying();
        parting = new Parting();
    }

    public int vertex(int g, int colour)
            throws NoSuchElementException, IllegalArgumentException, IllegalStateException {
        Graph graph = graphOf(g);
        needColour(colour);
        if (graph.count >= MOST_VERTICES) {
            throw new IllegalStateException("the graph has all the vertices it can have");
        }
        return graph.addVertex(colour);
    }

    public int paint(int g, int v, int colour)
            throws NoSuchElementException, IllegalArgumentException {
        Graph graph = graphWith(g, v);
        needColour(colour);
        int before = graph.colours[v];
        graph.colours[v] = colour;
        return before;
    }

    public int join(int g, int v, int w)
            throws NoSuchElementException, IllegalArgumentException, IllegalStateException {
        Graph graph = graphWithPair(g, v, w);
        if (graph.linked(v, w)) {
            throw new IllegalStateException("the edge is there");
        }
        graph.flipEdge(v, w);
        return graph.edges();
    }

    public int part(int g, int v, int w)
            throws NoSuchElementException, IllegalArgumentException, IllegalStateException {
        Graph graph = graphWithPair(g, v, w);
        if (!graph.linked(v, w)) {
            throw new IllegalStateException("the edge isn't there");
        }
        graph.flipEdge(v, w);
        return graph.edges();
    }

    public int clear(int g) throws NoSuchElementException {
        Graph graph = graphOf(g);
        int before = graph.count;
        graph.count = 0;
        return before;
    }

    public int copy(int g, int h) throws NoSuchElementException {
        Graph graph = graphOf(g);
        graph.become(graphOf(h));
        return graph.count;
    }

    public int turn(int g) throws NoSuchElementException {
        Graph graph = graphOf(g);
        graph.flipAllEdges();
        return graph.edges();
    }

    public int settle(int g) throws NoSuchElementException {
        Graph graph = graphOf(g);
        numbering.find(graph);
        spare.become(graph);
        graph.becomeInOrder(spare, numbering.vertices);
        int moved = 0;
        for (int v = 0; v < graph.count; v++) {
            if (numbering.places[v] != v) {
                moved++;
            }
        }
        return moved;
    }

    public int size(int g) throws NoSuchElementException {
        return graphOf(g).count;
    }

    public int beside(int g, int v) throws NoSuchElementException {
        return graphWith(g, v).neighbours[v];
    }

    public int name(int g) throws NoSuchElementException {
        numbering.find(graphOf(g));
        return numbering.least;
    }

    public int place(int g, int v) throws NoSuchElementException {
        numbering.find(graphWith(g, v));
        return numbering.places[v];
    }

    public int automorphisms(int g) throws NoSuchElementException {
        return laying.number(graphOf(g), 0);
    }

    public int fixing(int g, int set) throws NoSuchElementException {
        Graph graph = graphOf(g);
        needSet(graph, set);
        return laying.number(graph, set);
    }

    public int orbit(int g, int v) throws NoSuchElementException {
        return laying.reach(graphWith(g, v), v, 0);
    }

    public int orbits(int g) throws NoSuchElementException {
        Graph graph = graphOf(g);
        int found = 0;
        int seen = 0;
        for (int v = 0; v < graph.count; v++) {
            if (!contains(seen, v)) {
                found++;
                seen |= laying.reach(graph, v, 0);
            }
        }
        return found;
    }

    public int cell(int g, int v) throws NoSuchElementException {
        parting.find(graphWith(g, v));
        return parting.cellOf[v];
    }

    public int cells(int g) throws NoSuchElementException {
        Graph graph = graphOf(g);
        parting.find(graph);
        int found = 0;
        for (int v = 0; v < graph.count; v++) {
            if (isLeast(v, parting.cellOf[v])) {
                found++;
            }
        }
        return found;
    }

    public boolean same(int g, int h) throws NoSuchElementException {
        return alike(graphOf(g), graphOf(h));
    }

    public int match(int g, int h, int v) throws NoSuchElementException {
        if (!alike(graphWith(g, v), graphOf(h))) {
            return NONE;
        }
        return otherNumbering.vertices[numbering.places[v]];
    }

    public boolean moves(int g, int v, int w, int set) throws NoSuchElementException {
        Graph graph = graphWith(g, v);
        needVertex(graph, w);
        needSet(graph, set);
        return laying.carries(graph, v, w, set);
    }

    private Graph graphOf(int g) {
        if (g < 0 || g >= GRAPHS) {
            throw new NoSuchElementException("no such graph");
        }
        return graphs[g];
    }

    private Graph graphWith(int g, int v) {
        Graph graph = graphOf(g);
        needVertex(graph, v);
        return graph;
    }

    private Graph graphWithPair(int g, int v, int w) {
        Graph graph = graphWith(g, v);
        needVertex(graph, w);
        if (v == w) {
            throw new IllegalArgumentException("the vertices are not different");
        }
        return graph;
    }

    private static void needVertex(Graph graph, int v) {
        if (v < 0 || v >= graph.count) {
            throw new NoSuchElementException("no such vertex");
        }
    }

    private static void needSet(Graph graph, int set) {
        if (set >>> graph.count != 0) {
            throw new NoSuchElementException("a vertex in the set isn't there");
        }
    }

    private static void needColour(int colour) {
        if (colour < 0 || colour >= COLOURS) {
            throw new IllegalArgumentException("the colour is not 0 .. 3");
        }
    }

    /** Leaves the first numberings of both graphs behind, in numbering and otherNumbering. */
    private boolean alike(Graph graph, Graph other) {
        numbering.find(graph);
        otherNumbering.find(other);
        // A name tells edges alone: the colours (and by their numbers the size) must agree beside it.
        return graph.hasColoursOf(other) && numbering.least == otherNumbering.least;
    }

    private static boolean contains(int set, int v) {
        return (set >> v & 1) != 0;
    }

    private static boolean isLeast(int v, int set) {
        return (set & (1 << v) - 1) == 0;
    }

    /** What stands behind count in the rows is left over, and never read. */
    private static final class Graph {
        int count;
        final int[] colours;
        final int[] neighbours;

        Graph() {
            count = 0;
            colours = new int[MOST_VERTICES];
            neighbours = new int[MOST_VERTICES];
        }

        int addVertex(int colour) {
            int v = count;
            colours[v] = colour;
            neighbours[v] = 0;
            count = v + 1;
            return v;
        }

        int all() {
            return (1 << count) - 1;
        }

        boolean linked(int v, int w) {
            return (neighbours[v] >> w & 1) != 0;
        }

        int degree(int v) {
            return Integer.bitCount(neighbours[v]);
        }

        void flipEdge(int v, int w) {
            neighbours[v] ^= 1 << w;
            neighbours[w] ^= 1 << v;
        }

        void flipAllEdges() {
            for (int v = 0; v < count; v++) {
                neighbours[v] ^= all() ^ 1 << v;
            }
        }

        int edges() {
            int ends = 0;
            for (int v = 0; v < count; v++) {
                ends += degree(v);
            }
            return ends / 2;
        }

        void become(Graph other) {
            count = other.count;
            for (int v = 0; v < count; v++) {
                colours[v] = other.colours[v];
                neighbours[v] = other.neighbours[v];
            }
        }

        /** Becomes the other graph with its vertices in another order. */
        void becomeInOrder(Graph other, int[] order) {
            count = other.count;
            for (int v = 0; v < count; v++) {
                colours[v] = other.colours[order[v]];
                neighbours[v] = 0;
                for (int w = 0; w < count; w++) {
                    if (other.linked(order[v], order[w])) {
                        neighbours[v] |= 1 << w;
                    }
                }
            }
        }

        int coloured(int colour) {
            int set = 0;
            for (int v = 0; v < count; v++) {
                if (colours[v] == colour) {
                    set |= 1 << v;
                }
            }
            return set;
        }

        boolean hasColoursOf(Graph other) {
            for (int colour = 0; colour < COLOURS; colour++) {
                if (Integer.bitCount(coloured(colour)) != Integer.bitCount(other.coloured(colour))) {
                    return false;
                }
            }
            return true;
        }

        /** Whether the two can change places with nothing else moving, if their colours agree. */
        boolean twins(int v, int w) {
            int others = ~(1 << v | 1 << w);
            return (neighbours[v] & others) == (neighbours[w] & others);
        }
    }

    /** The first numbering of a graph: the vertex at each place, and the place of each vertex. */
    private static final class Numbering {
        int least;
        final int[] vertices;
        final int[] places;
        private final int[] trial;

        Numbering() {
            least = 0;
            vertices = new int[MOST_VERTICES];
            places = new int[MOST_VERTICES];
            trial = new int[MOST_VERTICES];
        }

        void find(Graph graph) {
            // Above every code, and above the beginning of every code when it is cut as they are.
            least = Integer.MAX_VALUE;
            fill(graph, 0, graph.all(), 0);
            for (int i = 0; i < graph.count; i++) {
                places[vertices[i]] = i;
            }
        }

        /**
         * Tries all that can stand from this place on. The bits of a place count more than those of
         * all later places, so only vertices with the least bits can lead to the least code; and as
         * the trials come in the order of their rows, the first with the least code is kept.
         */
        private void fill(Graph graph, int place, int left, int code) {
            if (place >= graph.count) {
                keepIfLess(graph.count, code);
                return;
            }
            int candidates = leastColoured(graph, left);
            int bits = leastBits(graph, place, candidates);
            int longer = code << place | bits;
            if (longer > least >>> bitsBehind(graph.count, place)) {
                return;
            }
            for (int v = 0; v < graph.count; v++) {
                if (contains(candidates, v) && bitsAt(graph, place, v) == bits
                        && !hasLesserTwin(graph, v, candidates)) {
                    trial[place] = v;
                    fill(graph, place + 1, left ^ 1 << v, longer);
                }
            }
        }

        private void keepIfLess(int count, int code) {
            if (code < least) {
                least = code;
                System.arraycopy(trial, 0, vertices, 0, count);
            }
        }

        private static int bitsBehind(int count, int place) {
            return count * (count - 1) / 2 - place * (place + 1) / 2;
        }

        private static int leastColoured(Graph graph, int left) {
            for (int colour = 0; colour < COLOURS; colour++) {
                int set = graph.coloured(colour) & left;
                if (set != 0) {
                    return set;
                }
            }
            return 0;
        }

        private int leastBits(Graph graph, int place, int candidates) {
            int bits = Integer.MAX_VALUE;
            for (int v = 0; v < graph.count; v++) {
                if (contains(candidates, v)) {
                    bits = Math.min(bits, bitsAt(graph, place, v));
                }
            }
            return bits;
        }

        private int bitsAt(Graph graph, int place, int v) {
            int bits = 0;
            for (int j = 0; j < place; j++) {
                bits = bits << 1 | (graph.linked(v, trial[j]) ? 1 : 0);
            }
            return bits;
        }

        /**
         * A vertex with a lesser twin that is still free need not be tried: the twin in its stead
         * gives the same codes in rows that come first.
         */
        private static boolean hasLesserTwin(Graph graph, int v, int candidates) {
            for (int u = 0; u < v; u++) {
                if (contains(candidates, u) && graph.twins(u, v)) {
                    return true;
                }
            }
            return false;
        }
    }

    /** The ways to lay a graph onto itself. */
    private static final class Laying {
        private final int[] onto;

        Laying() {
            onto = new int[MOST_VERTICES];
        }

        /**
         * The automorphisms that fix a set, without going through them all: they are as many as the
         * vertices that one vertex can come to, times those that fix this one as well.
         */
        int number(Graph graph, int set) {
            int ways = 1;
            int fixed = set;
            for (int v = 0; v < graph.count; v++) {
                ways *= Integer.bitCount(reach(graph, v, fixed));
                fixed |= 1 << v;
            }
            return ways;
        }

        /** The vertices to which automorphisms that fix the set give v. */
        int reach(Graph graph, int v, int set) {
            int reached = 0;
            for (int w = 0; w < graph.count; w++) {
                if (carries(graph, v, w, set)) {
                    reached |= 1 << w;
                }
            }
            return reached;
        }

        boolean carries(Graph graph, int v, int w, int set) {
            if (v == w) {
                return true;
            }
            if (contains(set, v) || contains(set, w)) {
                return false;
            }
            for (int u = 0; u < graph.count; u++) {
                onto[u] = u;
            }
            if (!fits(graph, v, w, set)) {
                return false;
            }
            onto[v] = w;
            return canGoOn(graph, 0, set | 1 << v, set | 1 << w);
        }

        /** Whether the vertices from u on that aren't laid can be laid onto those not taken. */
        private boolean canGoOn(Graph graph, int u, int laid, int taken) {
            if (u >= graph.count) {
                return true;
            }
            if (contains(laid, u)) {
                return canGoOn(graph, u + 1, laid, taken);
            }
            for (int x = 0; x < graph.count; x++) {
                if (!contains(taken, x) && fits(graph, u, x, laid)) {
                    onto[u] = x;
                    if (canGoOn(graph, u + 1, laid | 1 << u, taken | 1 << x)) {
                        return true;
                    }
                }
            }
            return false;
        }

        /** Whether u can be laid onto x beside what is laid. */
        private boolean fits(Graph graph, int u, int x, int laid) {
            // Degrees would tell by the end: looking at them here ends hopeless trials early.
            if (graph.colours[u] != graph.colours[x] || graph.degree(u) != graph.degree(x)) {
                return false;
            }
            for (int p = 0; p < graph.count; p++) {
                if (contains(laid, p) && graph.linked(u, p) != graph.linked(x, onto[p])) {
                    return false;
                }
            }
            return true;
        }
    }

    /** The cells of a graph, each told for each of its vertices. */
    private static final class Parting {
        int[] cellOf;
        private int[] finer;

        Parting() {
            cellOf = new int[MOST_VERTICES];
            finer = new int[MOST_VERTICES];
        }

        void find(Graph graph) {
            for (int v = 0; v < graph.count; v++) {
                cellOf[v] = graph.coloured(graph.colours[v]);
            }
            // A round that parts something makes a cell more, so a round for each vertex is enough.
            boolean parted = true;
            for (int round = 0; parted && round < graph.count; round++) {
                parted = refine(graph);
            }
        }

        /** The new cells are all told from the old ones, so the rows change places only at the end. */
        private boolean refine(Graph graph) {
            boolean parted = false;
            for (int v = 0; v < graph.count; v++) {
                finer[v] = agreeing(graph, v);
                if (finer[v] != cellOf[v]) {
                    parted = true;
                }
            }
            int[] coarser = cellOf;
            cellOf = finer;
            finer = coarser;
            return parted;
        }

        private int agreeing(Graph graph, int v) {
            int set = 0;
            for (int w = 0; w < graph.count; w++) {
                if (contains(cellOf[v], w) && agree(graph, v, w)) {
                    set |= 1 << w;
                }
            }
            return set;
        }

        private boolean agree(Graph graph, int v, int w) {
            for (int u = 0; u < graph.count; u++) {
                int forV = Integer.bitCount(graph.neighbours[v] & cellOf[u]);
                int forW = Integer.bitCount(graph.neighbours[w] & cellOf[u]);
                if (forV != forW) {
                    return false;
                }
            }
            return true;
        }
    }
}
