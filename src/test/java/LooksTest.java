/** Promises 10 to 22: the calls that change nothing. */
public final class LooksTest {
    private static final Checks CHECKS = new Checks();

    public static void main(String[] args) {
        size();
        beside();
        name();
        place();
        automorphisms();
        fixing();
        orbit();
        orbits();
        cell();
        cells();
        same();
        match();
        moves();
        nothingChanges();
        CHECKS.end();
    }

    private static void size() {
        GraphNamer namer = new GraphNamer();
        for (int count = 0; count < 7; count++) {
            CHECKS.due("10: size", count, namer.size(2));
            namer.vertex(2, 3);
        }
        CHECKS.due("10: seven", 7, namer.size(2));
        CHECKS.due("10: the others have none", 0, namer.size(0) + namer.size(1));
    }

    private static void beside() {
        GraphNamer namer = Graphs.with(0, Graphs.plain(7), 0, 6, 6, 3, 1, 2);
        CHECKS.due("11: two", 9, namer.beside(0, 6));
        CHECKS.due("11: the last vertex", 64, namer.beside(0, 3));
        CHECKS.due("11: none", 0, namer.beside(0, 5));
    }

    private static void name() {
        GraphNamer namer = new GraphNamer();
        CHECKS.due("12: without vertices", 0, namer.name(0));
        namer.vertex(0, 3);
        CHECKS.due("12: one vertex", 0, namer.name(0));
        namer.vertex(0, 0);
        CHECKS.due("12: two without an edge", 0, namer.name(0));
        namer.join(0, 0, 1);
        CHECKS.due("12: two with an edge", 1, namer.name(0));
        namer.vertex(0, 0);
        CHECKS.due("12: the edge counts least: places 2, 1", 1, namer.name(0));
        namer.paint(0, 2, 3);
        CHECKS.due("12: a lesser colour comes first: places 2, 0", 2, namer.name(0));
        namer.paint(0, 0, 0);
        CHECKS.due("12: places 1, 0 count most", 4, namer.name(0));
        Graphs.build(namer, 1, Graphs.plain(7), 2, 5);
        CHECKS.due("12: one edge of seven", 1, namer.name(1));
        namer.clear(1);
        Graphs.build(namer, 1, Graphs.plain(7));
        namer.turn(1);
        CHECKS.due("12: all bits of seven", (1 << 21) - 1, namer.name(1));
    }

    private static void place() {
        GraphNamer namer = Graphs.with(0, Graphs.plain(3), 0, 1);
        CHECKS.due("13: of equal codes the first row: 2, 0, 1", "1 2 0", places(namer, 0));
        namer.paint(0, 0, 3);
        CHECKS.due("13: of one colour the lesser code first", "2 1 0", places(namer, 0));
        namer.paint(0, 2, 1);
        CHECKS.due("13: colours before codes", "2 0 1", places(namer, 0));
        Graphs.build(namer, 1, Graphs.plain(7));
        CHECKS.due("13: all alike", "0 1 2 3 4 5 6", places(namer, 1));
        Graphs.build(namer, 2, new int[] {3, 2, 1, 0});
        CHECKS.due("13: all different", "3 2 1 0", places(namer, 2));
    }

    private static String places(GraphNamer namer, int g) {
        StringBuilder row = new StringBuilder();
        for (int v = 0; v < namer.size(g); v++) {
            row.append(v == 0 ? "" : " ").append(namer.place(g, v));
        }
        return row.toString();
    }

    private static void automorphisms() {
        GraphNamer namer = new GraphNamer();
        CHECKS.due("14: without vertices", 1, namer.automorphisms(0));
        Graphs.build(namer, 0, Graphs.plain(7));
        CHECKS.due("14: all orders of seven", 5040, namer.automorphisms(0));
        namer.turn(0);
        CHECKS.due("14: with all edges too", 5040, namer.automorphisms(0));
        namer.paint(0, 0, 1);
        CHECKS.due("14: colours are kept", 720, namer.automorphisms(0));
        Graphs.build(namer, 1, Graphs.plain(7), Graphs.ring(7));
        CHECKS.due("14: a ring of seven", 14, namer.automorphisms(1));
        Graphs.build(namer, 2, Graphs.plain(7), 0, 1, 1, 2, 2, 3, 3, 4, 4, 5, 2, 6);
        CHECKS.due("14: a path with a leaf off its middle", 1, namer.automorphisms(2));
    }

    private static void fixing() {
        GraphNamer namer = Graphs.with(0, Graphs.plain(7));
        CHECKS.due("15: the empty set", 5040, namer.fixing(0, 0));
        CHECKS.due("15: one of seven", 720, namer.fixing(0, 64));
        CHECKS.due("15: all", 1, namer.fixing(0, 127));
        CHECKS.due("15: two left to change", 2, namer.fixing(0, 31));
        Graphs.build(namer, 1, Graphs.plain(6), Graphs.ring(6));
        CHECKS.due("15: two that lie over against one another", 2, namer.fixing(1, 9));
        CHECKS.due("15: two that do not", 1, namer.fixing(1, 3));
        CHECKS.due("15: nothing of nothing", 1, namer.fixing(2, 0));
        CHECKS.thrown("15: of no vertices", Checks.NO_SUCH, () -> namer.fixing(2, 1));
    }

    private static void orbit() {
        GraphNamer namer = Graphs.with(0, Graphs.plain(5), 0, 1, 1, 2, 2, 3);
        CHECKS.due("16: the ends of a path", 9, namer.orbit(0, 3));
        CHECKS.due("16: its middle", 6, namer.orbit(0, 1));
        CHECKS.due("16: one alone", 16, namer.orbit(0, 4));
        namer.paint(0, 0, 1);
        CHECKS.due("16: colours are kept", 2, namer.orbit(0, 1));
    }

    private static void orbits() {
        GraphNamer namer = Graphs.with(0, Graphs.plain(5), 0, 1, 1, 2, 2, 3);
        CHECKS.due("17: of a path and one alone", 3, namer.orbits(0));
        namer.paint(0, 0, 1);
        CHECKS.due("17: nothing moves", 5, namer.orbits(0));
        CHECKS.due("17: without vertices", 0, namer.orbits(1));
        Graphs.build(namer, 2, Graphs.plain(7), 0, 1, 1, 2, 2, 0, 3, 4, 4, 5, 5, 6, 6, 3);
        CHECKS.due("17: two rings, more orbits than cells", 2, namer.orbits(2));
    }

    private static void cell() {
        GraphNamer namer = Graphs.with(0, Graphs.plain(7), 0, 1, 1, 2, 2, 0, 3, 4, 4, 5, 5, 6, 6, 3);
        CHECKS.due("18: two rings, one cell", 127, namer.cell(0, 0));
        CHECKS.due("18: but two orbits", 7, namer.orbit(0, 0));
        namer.paint(0, 3, 1);
        CHECKS.due("18: a colour parts its ring", 16 + 64, namer.cell(0, 4));
        CHECKS.due("18: in further rounds", 32, namer.cell(0, 5));
        CHECKS.due("18: and leaves the other", 7, namer.cell(0, 2));
        CHECKS.due("18: the painted one", 8, namer.cell(0, 3));
        Graphs.build(namer, 1, new int[] {1, 2, 1, 2});
        CHECKS.due("18: by colours alone", 10, namer.cell(1, 3));
    }

    private static void cells() {
        GraphNamer namer = Graphs.with(0, Graphs.plain(7), 0, 1, 1, 2, 2, 3, 3, 4, 4, 5, 5, 6);
        CHECKS.due("19: a path of seven", 4, namer.cells(0));
        namer.paint(0, 0, 2);
        CHECKS.due("19: with a coloured end", 7, namer.cells(0));
        CHECKS.due("19: without vertices", 0, namer.cells(1));
        Graphs.build(namer, 2, Graphs.plain(7), 0, 1, 1, 2, 2, 0, 3, 4, 4, 5, 5, 6, 6, 3);
        CHECKS.due("19: two rings", 1, namer.cells(2));
    }

    private static void same() {
        GraphNamer namer = Graphs.with(0, new int[] {0, 0, 1}, 0, 2);
        Graphs.build(namer, 1, new int[] {1, 0, 0}, 0, 1);
        CHECKS.due("20: but for the numbers", true, namer.same(0, 1));
        CHECKS.due("20: the other way round", true, namer.same(1, 0));
        namer.part(1, 0, 1);
        namer.join(1, 1, 2);
        CHECKS.due("20: colours at the wrong edge", false, namer.same(0, 1));
        CHECKS.due("20: with itself", true, namer.same(0, 0));
        Graphs.build(namer, 0, Graphs.plain(3));
        Graphs.build(namer, 1, Graphs.plain(4));
        CHECKS.due("20: one name, not one size", false, namer.same(0, 1));
        Graphs.build(namer, 1, new int[] {0, 0, 2});
        CHECKS.due("20: one name, not the same colours", false, namer.same(0, 1));
        Graphs.build(namer, 0, new int[] {0, 2, 2});
        CHECKS.due("20: not as many of each colour", false, namer.same(0, 1));
        namer.clear(0);
        CHECKS.due("20: none without vertices and one with", false, namer.same(0, 1));
        CHECKS.due("20: two without vertices", true, namer.same(0, 2));
    }

    private static void match() {
        GraphNamer namer = Graphs.with(0, new int[] {0, 0, 1}, 0, 2);
        Graphs.build(namer, 1, new int[] {1, 0, 0}, 0, 1);
        CHECKS.due("21: at the edge", 1, namer.match(0, 1, 0));
        CHECKS.due("21: alone", 2, namer.match(0, 1, 1));
        CHECKS.due("21: coloured", 0, namer.match(0, 1, 2));
        CHECKS.due("21: and back", 2, namer.match(1, 0, 0));
        CHECKS.due("21: with itself", 1, namer.match(0, 0, 1));
        namer.turn(1);
        CHECKS.due("21: not the same", GraphNamer.NONE, namer.match(0, 1, 0));
        Graphs.build(namer, 2, Graphs.plain(1));
        CHECKS.due("21: not one size", GraphNamer.NONE, namer.match(0, 2, 2));
        CHECKS.thrown("21: v is of g, not of h", Checks.NO_SUCH, () -> namer.match(2, 0, 2));
    }

    private static void moves() {
        GraphNamer namer = Graphs.with(0, Graphs.plain(6), Graphs.ring(6));
        CHECKS.due("22: a ring turns", true, namer.moves(0, 0, 3, 0));
        CHECKS.due("22: round two that stay", true, namer.moves(0, 1, 5, 9));
        CHECKS.due("22: not if a third stays", false, namer.moves(0, 1, 5, 11));
        CHECKS.due("22: not onto one that stays", false, namer.moves(0, 1, 5, 32));
        CHECKS.due("22: not if it stays itself", false, namer.moves(0, 1, 5, 2));
        CHECKS.due("22: to itself while all stay", true, namer.moves(0, 4, 4, 63));
        CHECKS.due("22: one stays that can't", false, namer.moves(0, 0, 1, 4));
        namer.paint(0, 0, 1);
        CHECKS.due("22: colours are kept", false, namer.moves(0, 0, 3, 0));
    }

    private static void nothingChanges() {
        GraphNamer namer = Graphs.with(0, new int[] {2, 1, 0, 1}, 0, 1, 2, 3);
        Graphs.build(namer, 1, new int[] {1, 2, 1, 0}, 1, 0, 3, 2);
        String before = Graphs.state(namer);
        namer.name(0);
        namer.place(0, 3);
        namer.automorphisms(0);
        namer.fixing(0, 3);
        namer.orbit(0, 1);
        namer.orbits(0);
        namer.cell(0, 1);
        namer.cells(0);
        namer.same(0, 1);
        namer.match(0, 1, 2);
        namer.moves(0, 1, 3, 0);
        CHECKS.due("looking changes nothing", before, Graphs.state(namer));
    }
}
