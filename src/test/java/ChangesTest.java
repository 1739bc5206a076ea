/** Promises 1 to 9: a new object, and the calls that change graphs. */
public final class ChangesTest {
    private static final Checks CHECKS = new Checks();

    public static void main(String[] args) {
        newObject();
        vertex();
        paint();
        join();
        part();
        clear();
        copy();
        turn();
        settle();
        CHECKS.end();
    }

    private static void newObject() {
        GraphNamer namer = new GraphNamer();
        for (int g = 0; g < 3; g++) {
            CHECKS.due("1: size of a new graph", 0, namer.size(g));
        }
        GraphNamer other = new GraphNamer();
        other.vertex(0, 1);
        CHECKS.due("1: objects share nothing", 0, namer.size(0));
    }

    private static void vertex() {
        GraphNamer namer = new GraphNamer();
        for (int v = 0; v < 7; v++) {
            CHECKS.due("2: number of a new vertex", v, namer.vertex(1, v % 4));
        }
        CHECKS.thrown("2: an eighth vertex", Checks.STATE, () -> namer.vertex(1, 0));
        CHECKS.thrown("2: colour before fullness", Checks.ARGUMENT, () -> namer.vertex(1, 4));
        CHECKS.due("2: no edges come with vertices, colours are kept",
                "0:\n1: 0/0 1/0 2/0 3/0 0/0 1/0 2/0\n2:\n", Graphs.state(namer));
    }

    private static void paint() {
        GraphNamer namer = Graphs.with(2, new int[] {3, 1}, 0, 1);
        CHECKS.due("3: the colour before", 3, namer.paint(2, 0, 2));
        CHECKS.due("3: the colour painted, which it may get again", 2, namer.paint(2, 0, 2));
        CHECKS.due("3: another one behind that", 2, namer.paint(2, 0, 0));
        CHECKS.due("3: nothing else is changed", "0:\n1:\n2: 0/2 1/1\n", Graphs.state(namer));
    }

    private static void join() {
        GraphNamer namer = Graphs.with(0, Graphs.plain(4));
        CHECKS.due("4: the first edge", 1, namer.join(0, 3, 1));
        CHECKS.due("4: the second edge", 2, namer.join(0, 0, 1));
        CHECKS.due("4: both ends see it", "0: 0/2 0/9 0/0 0/2\n1:\n2:\n", Graphs.state(namer));
        CHECKS.thrown("4: an edge that is there", Checks.STATE, () -> namer.join(0, 3, 1));
        CHECKS.thrown("4: it is there the other way round too", Checks.STATE, () -> namer.join(0, 1, 3));
        CHECKS.thrown("4: vertices that are not different", Checks.ARGUMENT, () -> namer.join(0, 2, 2));
        CHECKS.thrown("4: no vertex, and not different", Checks.NO_SUCH, () -> namer.join(0, 4, 4));
    }

    private static void part() {
        GraphNamer namer = Graphs.with(0, Graphs.plain(4), 0, 1, 1, 2, 2, 3);
        CHECKS.due("5: an edge goes, told the other way round", 2, namer.part(0, 2, 1));
        CHECKS.due("5: for both ends", "0: 0/2 0/1 0/8 0/4\n1:\n2:\n", Graphs.state(namer));
        CHECKS.thrown("5: an edge that isn't there", Checks.STATE, () -> namer.part(0, 1, 2));
        CHECKS.thrown("5: vertices that are not different", Checks.ARGUMENT, () -> namer.part(0, 1, 1));
        CHECKS.thrown("5: no vertex, and not different", Checks.NO_SUCH, () -> namer.part(0, -1, -1));
        CHECKS.due("5: down to one", 1, namer.part(0, 0, 1));
        CHECKS.due("5: down to none", 0, namer.part(0, 2, 3));
    }

    private static void clear() {
        GraphNamer namer = Graphs.with(1, new int[] {3, 2, 1}, Graphs.ring(3));
        CHECKS.due("6: vertices it had", 3, namer.clear(1));
        CHECKS.due("6: it has none", 0, namer.size(1));
        CHECKS.due("6: an empty one", 0, namer.clear(1));
        namer.vertex(1, 0);
        namer.vertex(1, 0);
        CHECKS.due("6: the edges don't come again", "0:\n1: 0/0 0/0\n2:\n", Graphs.state(namer));
        CHECKS.due("6: nor do they count", 1, namer.join(1, 0, 1));
    }

    private static void copy() {
        GraphNamer namer = Graphs.with(0, new int[] {3, 2, 1}, 0, 1);
        Graphs.build(namer, 1, Graphs.plain(5), Graphs.ring(5));
        CHECKS.due("7: answers how many vertices", 3, namer.copy(1, 0));
        CHECKS.due("7: colours and edges", "0: 3/2 2/1 1/0\n1: 3/2 2/1 1/0\n2:\n", Graphs.state(namer));
        namer.join(1, 1, 2);
        namer.paint(0, 0, 0);
        CHECKS.due("7: two graphs, not one", "0: 0/2 2/1 1/0\n1: 3/2 2/5 1/2\n2:\n", Graphs.state(namer));
        CHECKS.due("7: onto itself", 3, namer.copy(1, 1));
        CHECKS.due("7: an empty graph", 0, namer.copy(0, 2));
        CHECKS.due("7: both at the end", "0:\n1: 3/2 2/5 1/2\n2:\n", Graphs.state(namer));
    }

    private static void turn() {
        GraphNamer namer = Graphs.with(0, new int[] {0, 1, 0, 2}, 0, 1, 1, 2);
        CHECKS.due("8: edges then", 4, namer.turn(0));
        CHECKS.due("8: where there were none", "0: 0/12 1/8 0/9 2/7\n1:\n2:\n", Graphs.state(namer));
        CHECKS.due("8: and back", 2, namer.turn(0));
        CHECKS.due("8: as before", "0: 0/2 1/5 0/2 2/0\n1:\n2:\n", Graphs.state(namer));
        CHECKS.due("8: without vertices", 0, namer.turn(1));
        Graphs.build(namer, 2, Graphs.plain(7));
        CHECKS.due("8: all edges of seven", 21, namer.turn(2));
    }

    private static void settle() {
        GraphNamer namer = Graphs.with(0, new int[] {2, 1, 0}, 0, 1);
        CHECKS.due("9: colours rise, so the ends change", 2, namer.settle(0));
        CHECKS.due("9: edges go along", "0: 0/0 1/4 2/2\n1:\n2:\n", Graphs.state(namer));
        CHECKS.due("9: once is enough", 0, namer.settle(0));
        CHECKS.due("9: without vertices", 0, namer.settle(1));
        Graphs.build(namer, 1, Graphs.plain(5), Graphs.ring(5));
        int name = namer.name(1);
        CHECKS.due("9: a ring of five", 4, namer.settle(1));
        CHECKS.due("9: the name stays", name, namer.name(1));
        CHECKS.due("9: its places are its numbers", 3, namer.place(1, 3));
    }
}
