import java.util.Random;

/** The class beside the model: all small graphs, and long runs of calls with a fixed seed. */
public final class ModelTest {
    private static final int CALLS = 512;
    private static final int RUNS = 200;
    private static final Checks CHECKS = new Checks();

    public static void main(String[] args) {
        for (int count = 0; count <= 4; count++) {
            allGraphs(count);
        }
        for (int seed = 1; seed <= RUNS; seed++) {
            longRun(seed);
        }
        CHECKS.end();
    }

    /** All edges with all colourings out of 0, 1 and 3; with all looks at each. */
    private static void allGraphs(int count) {
        int pairs = count * (count - 1) / 2;
        int colourings = (int) Math.pow(3, count);
        for (int edges = 0; edges < 1 << pairs; edges++) {
            for (int colouring = 0; colouring < colourings; colouring++) {
                Both both = new Both(count + " vertices, edges " + edges + ", colouring " + colouring);
                build(both, count, edges, colouring);
                lookAtAll(both, count);
            }
        }
    }

    private static void build(Both both, int count, int edges, int colouring) {
        int bit = 0;
        for (int v = 0, rest = colouring; v < count; v++, rest /= 3) {
            both.call(0, 0, rest % 3 == 2 ? 3 : rest % 3, 0, 0);
            for (int w = 0; w < v; w++, bit++) {
                if ((edges >> bit & 1) == 1) {
                    both.call(2, 0, v, w, 0);
                }
            }
        }
        both.call(5, 1, 0, 0, 0);
        both.call(7, 1, 0, 0, 0);
    }

    private static void lookAtAll(Both both, int count) {
        for (int kind : new int[] {8, 10, 12, 15, 17}) {
            both.call(kind, 0, 0, 0, 0);
        }
        both.call(18, 0, 1, 0, 0);
        for (int v = 0; v < count; v++) {
            for (int kind : new int[] {9, 11, 14, 16}) {
                both.call(kind, 0, v, 0, 0);
            }
            both.call(9, 1, v, 0, 0);
            both.call(19, 0, 1, v, 0);
            both.call(20, 0, v, (v + 1) % count, 1 << (v + 2) % count);
        }
        for (int set = 0; set < 1 << count; set++) {
            both.call(13, 0, set, 0, 0);
        }
    }

    private static void longRun(int seed) {
        Random random = new Random(seed);
        Both both = new Both("seed " + seed);
        // Few colours and few vertices make many graphs the same; a third of the runs name all seven.
        int colours = 1 + seed % 4;
        int most = seed % 3 == 0 ? 7 : 2 + seed % 6;
        for (int made = 0; made < CALLS; made++) {
            int kind = random.nextInt(21);
            int g = number(random, 3);
            if (kind == 6 && random.nextInt(3) != 0 || kind == 4 && random.nextInt(8) != 0) {
                kind = 2;
            }
            switch (kind) {
                case 0 -> both.call(0, g, number(random, colours), 0, 0);
                case 1 -> both.call(1, g, number(random, most), number(random, colours), 0);
                case 5, 18 -> both.call(kind, g, number(random, 3), 0, 0);
                case 13 -> both.call(13, g, number(random, 1 << most), 0, 0);
                case 19 -> both.call(19, g, number(random, 3), number(random, most), 0);
                default -> both.call(kind, g, number(random, most), number(random, most), set(random, most));
            }
        }
    }

    /** Mostly 0 .. bound - 1, at times a number outside. */
    private static int number(Random random, int bound) {
        return random.nextInt(40) == 0 ? random.nextInt(bound + 4) - 2 : random.nextInt(bound);
    }

    private static int set(Random random, int most) {
        return 1 << number(random, most) & random.nextInt();
    }

    /** Makes each call on an object and on a model, and looks whether the answers agree. */
    private static final class Both {
        private final GraphNamer namer = new GraphNamer();
        private final Model model = new Model();
        private final String where;

        Both(String where) {
            this.where = where;
        }

        void call(int kind, int g, int a, int b, int c) {
            String what = where + ": call " + kind + " with " + g + ", " + a + ", " + b + ", " + c;
            Object want = Checks.outcome(() -> onModel(kind, g, a, b, c));
            CHECKS.due(what, want, Checks.outcome(() -> onNamer(kind, g, a, b, c)));
        }

        private Object onNamer(int kind, int g, int a, int b, int c) {
            return switch (kind) {
                case 0 -> namer.vertex(g, a);
                case 1 -> namer.paint(g, a, b);
                case 2 -> namer.join(g, a, b);
                case 3 -> namer.part(g, a, b);
                case 4 -> namer.clear(g);
                case 5 -> namer.copy(g, a);
                case 6 -> namer.turn(g);
                case 7 -> namer.settle(g);
                case 8 -> namer.size(g);
                case 9 -> namer.beside(g, a);
                case 10 -> namer.name(g);
                case 11 -> namer.place(g, a);
                case 12 -> namer.automorphisms(g);
                case 13 -> namer.fixing(g, a);
                case 14 -> namer.orbit(g, a);
                case 15 -> namer.orbits(g);
                case 16 -> namer.cell(g, a);
                case 17 -> namer.cells(g);
                case 18 -> namer.same(g, a);
                case 19 -> namer.match(g, a, b);
                default -> namer.moves(g, a, b, c);
            };
        }

        private Object onModel(int kind, int g, int a, int b, int c) {
            return switch (kind) {
                case 0 -> model.vertex(g, a);
                case 1 -> model.paint(g, a, b);
                case 2 -> model.join(g, a, b);
                case 3 -> model.part(g, a, b);
                case 4 -> model.clear(g);
                case 5 -> model.copy(g, a);
                case 6 -> model.turn(g);
                case 7 -> model.settle(g);
                case 8 -> model.size(g);
                case 9 -> model.beside(g, a);
                case 10 -> model.name(g);
                case 11 -> model.place(g, a);
                case 12 -> model.automorphisms(g);
                case 13 -> model.fixing(g, a);
                case 14 -> model.orbit(g, a);
                case 15 -> model.orbits(g);
                case 16 -> model.cell(g, a);
                case 17 -> model.cells(g);
                case 18 -> model.same(g, a);
                case 19 -> model.match(g, a, b);
                default -> model.moves(g, a, b, c);
            };
        }
    }
}
