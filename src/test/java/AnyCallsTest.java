import java.util.Random;

/** Any call with any arguments in any state, edges above all: none throws, each answers as Model does. */
public final class AnyCallsTest {
    private static final int RUNS = 400;
    private static final int[] EDGES = {
        Integer.MIN_VALUE, -16, -2, -1, 0, 0, 0, 1, 1, 1, 2, 2, 2, 3, 3, 4, 5, 6, 7, 8, 9, 11, 13, 14, 15, 16, 17, 18, 19, 20,
        21, 22, 33, 34, 39, 40, 41, 59, 60, 61, 200, 201, 400, 401, 1 << 20, 1 << 28, Integer.MAX_VALUE};

    private final Random random;
    private final TransactionCells x = new TransactionCells();
    private final Model m = new Model();

    private AnyCallsTest(long seed) {
        random = new Random(seed);
    }

    public static void main(String[] args) {
        for (long seed = 1; seed <= RUNS; seed++) {
            AnyCallsTest run = new AnyCallsTest(seed);
            for (int i = 0; i < 250; i++) {
                run.call(seed);
                Due.due("seed " + seed + ", digest", run.x.digest(), run.m.digest());
            }
        }
        Due.close();
    }

    private int any() {
        return EDGES[random.nextInt(EDGES.length)];
    }

    private int near(int many) {
        return random.nextInt(10) == 0 ? any() : random.nextInt(many);
    }

    private void call(long seed) {
        int a = near(6);
        int b = near(22);
        int c = near(4);
        int d = near(4);
        int e = near(4);
        int which = random.nextInt(30);
        String what = "seed " + seed + ", call " + which + " of " + a + ", " + b + ", " + c + ", " + d + ", " + e;
        Due.due(what, which < 12 ? ahead(true, which, a, b, c, d, e) : later(true, which, a, b, c),
            which < 12 ? ahead(false, which, a, b, c, d, e) : later(false, which, a, b, c));
    }

    private long ahead(boolean mine, int which, int a, int b, int c, int d, int e) {
        switch (which) {
            case 0: return mine ? x.wipe() : m.wipe();
            case 1: return mine ? x.row(a, c, b) : m.row(a, c, b);
            case 2: return mine ? x.item(a, c, (long) b << 31) : m.item(a, c, (long) b << 31);
            case 3: return mine ? x.tear(a) : m.tear(a);
            case 4: return mine ? x.cell(a, c, d) : m.cell(a, c, d);
            case 5: return mine ? x.way(c) : m.way(c);
            case 6: return mine ? x.code(a, c) : m.code(a, c);
            default: return mine ? x.act(a, b, c, d, e) : m.act(a, b, c, d, e);
        }
    }

    private long later(boolean mine, int which, int a, int b, int c) {
        switch (which) {
            case 12: return mine ? x.reset() : m.reset();
            case 13: case 14: return mine ? x.start(c) : m.start(c);
            case 15: case 16: return mine ? x.step(c) : m.step(c);
            case 17: case 18: return mine ? x.run(c, b) : m.run(c, b);
            case 19: return mine ? x.explore(b) : m.explore(b);
            case 20: return mine ? x.end(c - 1, b) : m.end(c - 1, b);
            case 21: return mine ? x.thread(c, b) : m.thread(c, b);
            case 22: return mine ? x.told(a, b) : m.told(a, b);
            case 23: return mine ? x.count(a) : m.count(a);
            case 24: return mine ? x.order(c, b) : m.order(c, b);
            case 25: case 26: return mine ? x.forge(c, b, a) : m.forge(c, b, a);
            case 27: return mine ? x.check() : m.check();
            case 28: return mine ? x.keep() : m.keep();
            default: return mine ? x.back() : m.back();
        }
    }
}
