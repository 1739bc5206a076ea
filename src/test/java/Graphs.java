/** Builds graphs for the tests, and tells all that can be seen of an object's state. */
final class Graphs {
    private Graphs() {
    }

    /** A new object whose graph g has these colours, and edges given in pairs. */
    static GraphNamer with(int g, int[] colours, int... ends) {
        GraphNamer namer = new GraphNamer();
        build(namer, g, colours, ends);
        return namer;
    }

    static void build(GraphNamer namer, int g, int[] colours, int... ends) {
        namer.clear(g);
        for (int colour : colours) {
            namer.vertex(g, colour);
        }
        for (int i = 0; i + 1 < ends.length; i += 2) {
            namer.join(g, ends[i], ends[i + 1]);
        }
    }

    /** A new object whose graph 0 has this many vertices of colour 0, and no edges. */
    static GraphNamer bare(int count) {
        return with(0, plain(count));
    }

    /** A new object whose graph 0 has this many vertices of colour 0, and all edges. */
    static GraphNamer whole(int count) {
        GraphNamer namer = bare(count);
        for (int v = 0; v < count; v++) {
            for (int w = 0; w < v; w++) {
                namer.join(0, v, w);
            }
        }
        return namer;
    }

    static int[] plain(int count) {
        return new int[count];
    }

    /** The ends of the edges of a ring of the vertices 0 .. count - 1. */
    static int[] ring(int count) {
        int[] ends = new int[2 * count];
        for (int v = 0; v < count; v++) {
            ends[2 * v] = v;
            ends[2 * v + 1] = (v + 1) % count;
        }
        return ends;
    }

    /** Sizes, colours and edges of the three graphs; colours are seen by painting there and back. */
    static String state(GraphNamer namer) {
        StringBuilder text = new StringBuilder();
        for (int g = 0; g < 3; g++) {
            text.append(g).append(':');
            for (int v = 0; v < namer.size(g); v++) {
                int colour = namer.paint(g, v, 0);
                namer.paint(g, v, colour);
                text.append(' ').append(colour).append('/').append(namer.beside(g, v));
            }
            text.append('\n');
        }
        return text.toString();
    }
}
