import java.util.ArrayList;
import java.util.Arrays;
import java.util.List;
import java.util.NoSuchElementException;

/** The document's words done by trying every order of the vertices; slow, and sharing no code with the class. */
final class Model {
    private static final List<List<int[]>> ORDERS = new ArrayList<>();

    static {
        for (int n = 0; n <= 7; n++) {
            List<int[]> orders = new ArrayList<>();
            addOrders(new int[n], 0, orders);
            ORDERS.add(orders);
        }
    }

    private static final class Graph {
        List<Integer> colours = new ArrayList<>();
        boolean[][] edge = new boolean[7][7];

        int size() {
            return colours.size();
        }

        int edges() {
            int found = 0;
            for (int v = 0; v < size(); v++) {
                for (int w = 0; w < v; w++) {
                    found += edge[v][w] ? 1 : 0;
                }
            }
            return found;
        }
    }

    private final Graph[] graphs = {new Graph(), new Graph(), new Graph()};

    int vertex(int g, int colour) {
        Graph graph = graph(g);
        colour(colour);
        if (graph.size() == 7) {
            throw new IllegalStateException();
        }
        graph.colours.add(colour);
        return graph.size() - 1;
    }

    int paint(int g, int v, int colour) {
        Graph graph = graph(g, v);
        colour(colour);
        return graph.colours.set(v, colour);
    }

    int join(int g, int v, int w) {
        return change(g, v, w, true);
    }

    int part(int g, int v, int w) {
        return change(g, v, w, false);
    }

    int clear(int g) {
        int size = graph(g).size();
        graphs[g] = new Graph();
        return size;
    }

    int copy(int g, int h) {
        graph(g);
        Graph from = graph(h);
        Graph to = new Graph();
        to.colours.addAll(from.colours);
        for (int v = 0; v < 7; v++) {
            to.edge[v] = from.edge[v].clone();
        }
        graphs[g] = to;
        return to.size();
    }

    int turn(int g) {
        Graph graph = graph(g);
        for (int v = 0; v < graph.size(); v++) {
            for (int w = 0; w < graph.size(); w++) {
                graph.edge[v][w] = v != w && !graph.edge[v][w];
            }
        }
        return graph.edges();
    }

    int settle(int g) {
        Graph graph = graph(g);
        int[] order = first(graph);
        Graph settled = new Graph();
        int moved = 0;
        for (int i = 0; i < order.length; i++) {
            settled.colours.add(graph.colours.get(order[i]));
            moved += order[i] == i ? 0 : 1;
            for (int j = 0; j < order.length; j++) {
                settled.edge[i][j] = graph.edge[order[i]][order[j]];
            }
        }
        graphs[g] = settled;
        return moved;
    }

    int size(int g) {
        return graph(g).size();
    }

    int beside(int g, int v) {
        Graph graph = graph(g, v);
        int set = 0;
        for (int w = 0; w < graph.size(); w++) {
            set += graph.edge[v][w] ? 1 << w : 0;
        }
        return set;
    }

    int name(int g) {
        Graph graph = graph(g);
        return code(graph, first(graph));
    }

    int place(int g, int v) {
        return indexOf(first(graph(g, v)), v);
    }

    int automorphisms(int g) {
        return automorphismsOf(graph(g)).size();
    }

    int fixing(int g, int set) {
        Graph graph = graph(g);
        set(graph, set);
        int found = 0;
        for (int[] image : automorphismsOf(graph)) {
            found += fixes(image, set) ? 1 : 0;
        }
        return found;
    }

    int orbit(int g, int v) {
        int set = 0;
        for (int[] image : automorphismsOf(graph(g, v))) {
            set |= 1 << image[v];
        }
        return set;
    }

    int orbits(int g) {
        List<Integer> found = new ArrayList<>();
        for (int v = 0; v < size(g); v++) {
            if (!found.contains(orbit(g, v))) {
                found.add(orbit(g, v));
            }
        }
        return found.size();
    }

    int cell(int g, int v) {
        int[] cells = cellNumbers(graph(g, v));
        int set = 0;
        for (int w = 0; w < cells.length; w++) {
            set += cells[w] == cells[v] ? 1 << w : 0;
        }
        return set;
    }

    int cells(int g) {
        return (int) Arrays.stream(cellNumbers(graph(g))).distinct().count();
    }

    boolean same(int g, int h) {
        Graph a = graph(g);
        Graph b = graph(h);
        if (a.size() != b.size()) {
            return false;
        }
        for (int[] image : ORDERS.get(a.size())) {
            if (lays(a, b, image)) {
                return true;
            }
        }
        return false;
    }

    int match(int g, int h, int v) {
        int[] order = first(graph(g, v));
        return same(g, h) ? first(graph(h))[indexOf(order, v)] : -1;
    }

    boolean moves(int g, int v, int w, int set) {
        Graph graph = graph(g, v);
        graph(g, w);
        set(graph, set);
        for (int[] image : automorphismsOf(graph)) {
            if (image[v] == w && fixes(image, set)) {
                return true;
            }
        }
        return false;
    }

    private int change(int g, int v, int w, boolean there) {
        Graph graph = graph(g, v);
        graph(g, w);
        if (v == w) {
            throw new IllegalArgumentException();
        }
        if (graph.edge[v][w] == there) {
            throw new IllegalStateException();
        }
        graph.edge[v][w] = there;
        graph.edge[w][v] = there;
        return graph.edges();
    }

    private Graph graph(int g) {
        if (g != 0 && g != 1 && g != 2) {
            throw new NoSuchElementException();
        }
        return graphs[g];
    }

    private Graph graph(int g, int v) {
        Graph graph = graph(g);
        if (v < 0 || v > graph.size() - 1) {
            throw new NoSuchElementException();
        }
        return graph;
    }

    private static void set(Graph graph, int set) {
        for (int v = graph.size(); v < 32; v++) {
            if ((set & 1 << v) != 0) {
                throw new NoSuchElementException();
            }
        }
    }

    private static void colour(int colour) {
        if (colour != 0 && colour != 1 && colour != 2 && colour != 3) {
            throw new IllegalArgumentException();
        }
    }

    private static int[] first(Graph graph) {
        int[] first = null;
        // The orders come as rows do, the lesser first, so that only a lesser code takes over.
        for (int[] order : ORDERS.get(graph.size())) {
            if (coloursRise(graph, order) && (first == null || code(graph, order) < code(graph, first))) {
                first = order;
            }
        }
        return first;
    }

    private static boolean coloursRise(Graph graph, int[] order) {
        for (int i = 1; i < order.length; i++) {
            if (graph.colours.get(order[i - 1]) > graph.colours.get(order[i])) {
                return false;
            }
        }
        return true;
    }

    private static int code(Graph graph, int[] order) {
        int bits = order.length * (order.length - 1) / 2;
        int code = 0;
        for (int i = 0; i < order.length; i++) {
            for (int j = 0; j < i; j++) {
                if (graph.edge[order[i]][order[j]]) {
                    code += 1 << bits - 1 - (i * (i - 1) / 2 + j);
                }
            }
        }
        return code;
    }

    private static List<int[]> automorphismsOf(Graph graph) {
        List<int[]> found = new ArrayList<>();
        for (int[] image : ORDERS.get(graph.size())) {
            if (lays(graph, graph, image)) {
                found.add(image);
            }
        }
        return found;
    }

    private static boolean lays(Graph a, Graph b, int[] image) {
        for (int v = 0; v < image.length; v++) {
            if (!a.colours.get(v).equals(b.colours.get(image[v]))) {
                return false;
            }
            for (int w = 0; w < v; w++) {
                if (a.edge[v][w] != b.edge[image[v]][image[w]]) {
                    return false;
                }
            }
        }
        return true;
    }

    private static boolean fixes(int[] image, int set) {
        for (int v = 0; v < image.length; v++) {
            if ((set >> v & 1) == 1 && image[v] != v) {
                return false;
            }
        }
        return true;
    }

    /** Cells by texts: a vertex is told by its cell and by its neighbours' cells, in order. */
    private static int[] cellNumbers(Graph graph) {
        int n = graph.size();
        int[] cells = new int[n];
        for (int v = 0; v < n; v++) {
            cells[v] = graph.colours.get(v);
        }
        for (int round = 0; round < 8; round++) {
            List<String> tellings = new ArrayList<>();
            for (int v = 0; v < n; v++) {
                List<Integer> near = new ArrayList<>();
                for (int w = 0; w < n; w++) {
                    if (graph.edge[v][w]) {
                        near.add(cells[w]);
                    }
                }
                near.sort(null);
                tellings.add(cells[v] + " " + near);
            }
            for (int v = 0; v < n; v++) {
                cells[v] = tellings.indexOf(tellings.get(v));
            }
        }
        return cells;
    }

    private static int indexOf(int[] order, int v) {
        int i = 0;
        while (order[i] != v) {
            i++;
        }
        return i;
    }

    private static void addOrders(int[] order, int filled, List<int[]> orders) {
        if (filled == order.length) {
            orders.add(order.clone());
            return;
        }
        for (int v = 0; v < order.length; v++) {
            boolean used = false;
            for (int i = 0; i < filled; i++) {
                used |= order[i] == v;
            }
            if (!used) {
                order[filled] = v;
                addOrders(order, filled + 1, orders);
            }
        }
    }
}
