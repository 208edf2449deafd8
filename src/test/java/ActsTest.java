/** Promise 12, and 13: what single ACTS do, outside of TRANSACTIONS and with SCOPES; run(). */
public final class ActsTest {
    private static final int SET = Due.SET, ADD = Due.ADD, LESS = Due.LESS, PART = Due.PART, READ = Due.READ;
    private static final int WRITE = Due.WRITE, LINK = Due.LINK, VOID = Due.VOID, ITEM = Due.ITEM, JUMP = Due.JUMP;
    private static final int IF_NONE = Due.IF_NONE, BEGIN = Due.BEGIN, END = Due.END, RETRY = Due.RETRY;
    private static final int EITHER = Due.EITHER, OR = Due.OR, NEST = Due.NEST, JOIN = Due.JOIN, TRY = Due.TRY;
    private static final int DONE = Due.DONE, FAIL = Due.FAIL, BELOW = Due.BELOW;
    private static final int DOING = Due.DOING, READING = Due.READING, WAITING = Due.WAITING, SURE = Due.SURE;

    private static void due(String what, long got, long want) {
        Due.due(what, got, want);
    }

    private static int[] a(int... act) {
        return act;
    }

    public static void main(String[] args) {
        refusals();
        numbers();
        places();
        cellsOutside();
        items();
        failures();
        tries();
        nests();
        eithers();
        barred();
        scopesAtMost();
        endsOfCodes();
        run();
        Due.close();
    }

    private static TransactionCells going(int[]... acts) {
        TransactionCells x = Due.made(Due.CLOCK, acts);
        x.start(0);
        return x;
    }

    /** Steps THREAD 0 to its end, or FAILURE. */
    private static TransactionCells gone(int[]... acts) {
        TransactionCells x = going(acts);
        x.run(0, 200);
        return x;
    }

    private static void refusals() {
        TransactionCells x = going(a(SET, 0, 1));
        due("12: THREAD -1", x.step(-1), Due.UNKNOWN);
        due("12: THREAD 3", x.step(3), Due.UNKNOWN);
        due("12: not STARTED", x.step(1), Due.STATE);
        Due.steps("12: to the end", x, 0, 1, 4, Due.STATE);
        TransactionCells y = going(a(FAIL, 0));
        Due.steps("12: to the FAILURE", y, 0, 3, Due.STATE);
        due("12: refusals are no STEPS", y.thread(0, 5) + y.thread(0, 6), 1);
    }

    private static int register(int r, int[]... acts) {
        return gone(acts).thread(0, 8 + r);
    }

    private static void numbers() {
        int max = Integer.MAX_VALUE;
        int min = Integer.MIN_VALUE;
        due("12: SET", register(3, a(SET, 3, min)), min);
        due("12: ADD", register(0, a(SET, 0, 5), a(SET, 1, -8), a(ADD, 0, 1)), -3);
        due("12: ADD wraps", register(0, a(SET, 0, max), a(SET, 1, 1), a(ADD, 0, 1)), min);
        due("12: LESS", register(2, a(SET, 2, 5), a(SET, 1, 8), a(LESS, 2, 1)), -3);
        due("12: LESS wraps", register(0, a(SET, 0, min), a(SET, 1, 1), a(LESS, 0, 1)), max);
        due("12: PART is cut", register(0, a(SET, 0, -7), a(SET, 1, 2), a(PART, 0, 1)), -3);
        due("12: PART wraps", register(0, a(SET, 0, min), a(SET, 1, -1), a(PART, 0, 1)), min);
        due("12: PART to r[2]", register(2, a(SET, 2, 9), a(SET, 1, 4), a(PART, 2, 1)), 2);
        due("12: BELOW to r[3]", register(3, a(SET, 3, 1), a(SET, 2, 2), a(BELOW, 3, 2)), 1);
        due("12: ZERO", gone(a(SET, 0, 5), a(PART, 0, 1)).thread(0, 2), 4);
        due("12: BELOW", register(0, a(SET, 1, 3), a(BELOW, 0, 1)), 1);
        due("12: not BELOW, but like", register(0, a(SET, 0, 3), a(SET, 1, 3), a(BELOW, 0, 1)), 0);
        due("12: BELOW of far numbers", register(0, a(SET, 0, min), a(SET, 1, max), a(BELOW, 0, 1)), 1);
        due("12: not BELOW", register(0, a(SET, 0, 4), a(SET, 1, 3), a(BELOW, 0, 1)), 0);
    }

    private static void places() {
        TransactionCells x = going(a(IF_NONE, 0, 2), a(FAIL, 0), a(SET, 0, 9), a(IF_NONE, 0, 0), a(JUMP, 6), a(FAIL, 0),
            a(SET, 1, 1), a(JUMP, 40));
        int[] want = {2, 3, 4, 6, 7, 40};
        for (int place : want) {
            due("12: done", x.step(0), 1);
            due("12: PLACE", x.thread(0, 1), place);
        }
        due("12: no ACT is there", x.step(0), 4);
        due("12: ENDED", x.thread(0, 0), 2);
        due("12: PLACE", x.thread(0, 1), 40);
        due("12: no FAILURE", x.thread(0, 2), 0);
        due("16: STEPS", x.thread(0, 5), 7);
    }

    private static void cellsOutside() {
        TransactionCells x = going(a(READ, 0, 7), a(SET, 1, 6), a(WRITE, 0, 1), a(LINK, 1, 5), a(VOID, 7), a(READ, 2, 0), a(READ, 0, 7));
        x.start(1);
        due("12: NULL", x.step(1), 3);
        due("12: NULL is 1", x.thread(1, 2), 1);
        x.reset();
        x.cell(7, 1, -2);
        x.start(0);
        Due.steps("12", x, 0, 1, 1, 1, 1, 1, 1, 3);
        due("12: READ", x.thread(0, 8), -2);
        due("12: READ what it wrote", x.thread(0, 10), 6);
        due("12: VOID makes NULL", x.thread(0, 2), 1);
        int[][] cells = {{0, 1, 6, 1}, {1, 2, 5, 2}, {7, 0, 0, 3}};
        for (int[] c : cells) {
            for (int what = 0; what < 3; what++) due("12: told(" + c[0] + ", " + what + ")", x.told(c[0], what), c[1 + what]);
        }
        due("12: CLOCK", x.count(0), 3);
        due("12: TRANSACTIONS of their own", x.count(1), 3);
        due("12: which have an AGE", x.count(3), 3);
        due("19: THREAD", x.order(0, 0), 0);
        due("19: KIND DOING", x.order(0, 1), DOING);
        due("19: nothing read", x.order(0, 2), Due.NONE);
        due("19: what was written, sort", x.order(1, 18 + 1), 2);
        due("19: what was written", x.order(1, 26 + 1), 5);
        due("19: NOTHING written", x.order(2, 18 + 7), 0);
        due("19: not written", x.order(2, 18 + 1), Due.NONE);
        due("21: right", x.check(), Due.NONE);
        due("12: CAST", gone(a(LINK, 0, 0), a(READ, 0, 0)).thread(0, 2), 3);
    }

    private static int itemFailure(int sort, int v, int i) {
        TransactionCells x = Due.made(Due.CLOCK, Due.code(a(SET, 2, i), a(ITEM, 1, 0, 2)));
        x.cell(0, sort, v);
        x.row(1, 4, 2);
        x.item(1, 1, (9L << 32) + 5);
        x.start(0);
        x.run(0, 9);
        return x.thread(0, 2) == 0 ? 100 + x.thread(0, 9) : x.thread(0, 2);
    }

    private static void items() {
        due("12: ITEM, cast to int", itemFailure(2, 1, 1), 105);
        due("12: ITEM 0", itemFailure(2, 1, 0), 100);
        due("12: NOTHING", itemFailure(0, 0, 9), 1);
        due("12: a NUMBER", itemFailure(1, 1, 9), 3);
        due("12: MISSING", itemFailure(2, 0, 9), 1);
        due("12: INDEX", itemFailure(2, 1, 2), 2);
        due("12: INDEX below", itemFailure(2, 1, -1), 2);
    }

    private static void failures() {
        int[][] fails = {{0, 10}, {7, 17}, {8, 10}, {13, 15}, {-1, 17}, {Integer.MIN_VALUE, 10}};
        for (int[] f : fails) due("12: FAIL " + f[0], gone(a(SET, 3, f[0]), a(FAIL, 3)).thread(0, 2), f[1]);
        TransactionCells x = gone(a(SET, 3, 1), a(FAIL, 3), a(SET, 3, 5));
        due("12: FAILED", x.thread(0, 0), 3);
        due("12: it stands still", x.thread(0, 11), 1);
        due("12: at the ACT", x.thread(0, 1), 1);
        due("16: STEPS", x.thread(0, 5), 2);
    }

    private static void tries() {
        TransactionCells x = going(a(TRY, 5), a(SET, 1, 2), a(SET, 0, 3), a(FAIL, 0), a(DONE), a(TRY, 8), a(DONE), a(FAIL, 0));
        Due.steps("12: TRY", x, 0, 1, 1, 1);
        due("16: SCOPES", x.thread(0, 7), 1);
        Due.steps("12: FAIL is caught", x, 0, 1);
        due("12: r[0]", x.thread(0, 8), 13);
        due("12: the others stay", x.thread(0, 9), 2);
        due("12: the handler", x.thread(0, 1), 5);
        due("12: the TRY is gone", x.thread(0, 7), 0);
        Due.steps("12: another one, done", x, 0, 1, 1);
        due("12: it is done", x.thread(0, 7), 0);
        Due.steps("12: nothing catches", x, 0, 3);
        due("12: FAILURE", x.thread(0, 2), 15);
        TransactionCells y = going(a(TRY, 9), a(TRY, 4), a(TRY, 3), a(FAIL, 0), a(FAIL, 0));
        Due.steps("12: from the innermost one", y, 0, 1, 1, 1, 1);
        due("12: its handler", y.thread(0, 1), 3);
        Due.steps("12: the next", y, 0, 1);
        due("12: its handler", y.thread(0, 1), 4);
        Due.steps("12: the outermost", y, 0, 1);
        due("12: its handler", y.thread(0, 1), 9);
        due("12: all are gone", y.thread(0, 7), 0);
        Due.steps("12: the CODE's end", y, 0, 4);
    }

    private static void nests() {
        TransactionCells x = going(a(BEGIN, DOING), a(SET, 1, 4), a(WRITE, 0, 1), a(READ, 3, 2), a(NEST, 12), a(SET, 1, 5),
            a(WRITE, 0, 1), a(WRITE, 1, 1), a(READ, 3, 3), a(SET, 0, 6), a(FAIL, 0), a(SET, 3, 0), a(SET, 2, 1), a(END));
        x.reset();
        x.cell(2, 1, 20);
        x.cell(3, 1, 30);
        x.start(0);
        for (int i = 0; i < 10; i++) x.step(0);
        due("17: the LOG", x.told(1, 11), 5);
        Due.steps("12: the NEST fails", x, 0, 1);
        due("12: r[0]", x.thread(0, 8), 16);
        due("12: REGISTERS as at it", x.thread(0, 9), 4);
        due("12: REGISTERS as at it", x.thread(0, 11), 20);
        due("12: its handler", x.thread(0, 1), 12);
        due("12: LOG as at it", x.told(0, 11), 4);
        due("12: LOG as at it", x.told(1, 8), Due.NONE);
        due("12: READS stay", x.told(3, 5), 0);
        Due.steps("12: on", x, 0, 1, 1);
        due("12: written", x.told(0, 1), 4);
        due("12: not written", x.told(1, 0), 0);
        TransactionCells y = going(a(BEGIN, DOING), a(NEST, 9), a(SET, 1, 7), a(WRITE, 0, 1), a(JOIN), a(END));
        Due.steps("12: a NEST that is done", y, 0, 1, 1, 1, 1, 1);
        due("12: no SCOPE", y.thread(0, 7), 0);
        due("12: its LOG stays", y.told(0, 11), 7);
        Due.steps("12: END", y, 0, 1, 4);
        due("12: written", y.told(0, 1), 7);
    }

    private static void eithers() {
        TransactionCells x = going(a(BEGIN, WAITING), a(SET, 1, 4), a(WRITE, 0, 1), a(EITHER, 9), a(TRY, 20), a(SET, 1, 5),
            a(WRITE, 1, 1), a(READ, 3, 0), a(RETRY), a(WRITE, 2, 1), a(END));
        for (int i = 0; i < 8; i++) x.step(0);
        due("16: SCOPES", x.thread(0, 7), 2);
        Due.steps("12: RETRY", x, 0, 1);
        due("12: it and those within it are gone", x.thread(0, 7), 0);
        due("12: the second", x.thread(0, 1), 9);
        due("12: REGISTERS as at it", x.thread(0, 9), 4);
        due("12: LOG as at it", x.told(1, 8), Due.NONE);
        due("12: LOG as at it", x.told(0, 11), 4);
        Due.steps("12: on", x, 0, 1, 1, 4);
        due("12: written by the second", x.told(2, 1), 4);
        due("12: not by the first", x.told(1, 0), 0);
        TransactionCells y = going(a(BEGIN, WAITING), a(EITHER, 9), a(EITHER, 8), a(SET, 1, 7), a(OR, 5), a(RETRY), a(SET, 0, 1), a(END),
            a(END), a(SET, 2, 2), a(END));
        Due.steps("12: the first is done", y, 0, 1, 1, 1, 1, 1);
        due("12: OR goes to its PLACE", y.thread(0, 1), 5);
        due("12: the outer one stands", y.thread(0, 7), 1);
        Due.steps("12: RETRY to the outer one", y, 0, 1);
        due("12: its second", y.thread(0, 1), 9);
        due("12: REGISTERS as at it", y.thread(0, 9), 0);
        TransactionCells z = going(a(BEGIN, WAITING), a(TRY, 6), a(EITHER, 7), a(SET, 1, 7), a(FAIL, 0), a(SET, 0, 1), a(DONE));
        Due.steps("12: an EITHER is just gone", z, 0, 1, 1, 1, 1, 1);
        due("12: the handler of the TRY", z.thread(0, 1), 6);
        due("12: REGISTERS stay", z.thread(0, 9), 7);
        due("12: r[0]", z.thread(0, 8), 10);
        due("12: no SCOPE", z.thread(0, 7), 0);
    }

    private static void isBarred(String what, int[]... acts) {
        due("12: BARRED: " + what, gone(acts).thread(0, 2), 5);
    }

    /** The last ACT is BARRED, and the SCOPE before it catches that. */
    private static void isBarredInScope(String what, int[]... acts) {
        TransactionCells x = going(acts);
        due("12: BARRED in a SCOPE: " + what, x.run(0, acts.length), acts.length);
        due("12: BARRED, r[0]: " + what, x.thread(0, 8), 5);
        due("12: BARRED, the handler: " + what, x.thread(0, 1), 9);
    }

    private static void isFine(String what, int[]... acts) {
        due("12: not BARRED: " + what, gone(acts).thread(0, 0), 2);
    }

    private static void barred() {
        isBarred("BEGIN within one", a(BEGIN, DOING), a(BEGIN, DOING), a(END), a(END));
        isBarred("END outside", a(END));
        isBarred("RETRY outside", a(RETRY));
        isBarred("EITHER outside", a(EITHER, 1));
        isBarred("NEST outside", a(NEST, 1));
        isBarredInScope("END within a NEST", a(BEGIN, DOING), a(NEST, 9), a(END));
        isBarredInScope("END within a TRY of it", a(BEGIN, DOING), a(TRY, 9), a(END));
        isFine("END within a TRY before it", a(TRY, 9), a(BEGIN, DOING), a(END), a(DONE));
        isBarred("WRITE in a READING one", a(BEGIN, READING), a(WRITE, 0, 0), a(END));
        isBarred("LINK in a READING one", a(BEGIN, READING), a(LINK, 0, 0), a(END));
        isBarred("VOID in a READING one", a(BEGIN, READING), a(VOID, 0), a(END));
        for (int kind = 0; kind < 4; kind++) {
            if (kind != WAITING) {
                isBarred("RETRY in " + kind, a(BEGIN, kind), a(RETRY), a(END));
                isBarred("EITHER in " + kind, a(BEGIN, kind), a(EITHER, 2), a(OR, 3), a(END));
            }
            if (kind != SURE) isFine("NEST in " + kind, a(BEGIN, kind), a(NEST, 3), a(JOIN), a(END));
            isFine("TRY in " + kind, a(BEGIN, kind), a(TRY, 3), a(DONE), a(END));
        }
        isFine("EITHER in a WAITING one", a(BEGIN, WAITING), a(EITHER, 3), a(OR, 3), a(END));
        isBarred("NEST in a SURE one", a(BEGIN, SURE), a(NEST, 3), a(JOIN), a(END));
        isBarred("OR, none", a(BEGIN, WAITING), a(OR, 2), a(END));
        isBarred("OR outside", a(OR, 2));
        isBarred("JOIN, none", a(BEGIN, DOING), a(JOIN), a(END));
        isBarred("DONE, none", a(DONE));
        isBarredInScope("OR of a NEST", a(BEGIN, WAITING), a(NEST, 9), a(OR, 3));
        isBarred("JOIN of an EITHER", a(BEGIN, WAITING), a(EITHER, 9), a(JOIN), a(END));
        isBarredInScope("DONE of a NEST", a(BEGIN, WAITING), a(NEST, 9), a(DONE));
        isBarredInScope("JOIN of a TRY", a(BEGIN, WAITING), a(NEST, 3), a(TRY, 9), a(JOIN));
        isBarred("DONE of a TRY before the TRANSACTION", a(TRY, 4), a(BEGIN, DOING), a(DONE), a(END), a(END));
    }

    private static void scopesAtMost() {
        TransactionCells x = going(a(TRY, 9), a(TRY, 9), a(BEGIN, DOING), a(NEST, 9), a(TRY, 8), a(NEST, 7), a(SET, 0, 0), a(SET, 0, 0),
            a(SET, 1, 1));
        Due.steps("12: four SCOPES", x, 0, 1, 1, 1, 1, 1);
        due("16: four", x.thread(0, 7), 4);
        Due.steps("12: a fifth", x, 0, 1);
        due("12: BARRED, and caught", x.thread(0, 8), 5);
        due("12: by the innermost", x.thread(0, 1), 8);
        due("12: three are left", x.thread(0, 7), 3);
    }

    private static void endsOfCodes() {
        TransactionCells x = going(a(BEGIN, DOING));
        Due.steps("12: the CODE's end in a TRANSACTION", x, 0, 1, 3);
        due("12: INDEX", x.thread(0, 2), 2);
        due("12: it is undone", x.count(1), 0);
        TransactionCells y = going(a(TRY, 3), a(SET, 0, 0));
        Due.steps("12: the CODE's end in a TRY", y, 0, 1, 1, 1);
        due("12: INDEX is caught", y.thread(0, 8), 2);
        due("12: PLACE", y.thread(0, 1), 3);
        Due.steps("12: ENDED", y, 0, 4);
    }

    private static void run() {
        TransactionCells x = Due.made(Due.CLOCK, Due.code(a(SET, 0, 1), a(SET, 0, 2)), Due.code(a(JUMP, 0)), Due.code(a(SET, 0, 1)));
        due("13: THREAD -1", x.run(-1, 5), Due.UNKNOWN);
        due("13: THREAD 3", x.run(3, 500), Due.UNKNOWN);
        due("13: -1", x.run(0, -1), Due.OUTSIDE);
        due("13: 201", x.run(0, 201), Due.OUTSIDE);
        due("13: all are passed over", x.run(0, 200), 0);
        x.start(0);
        x.start(1);
        x.start(2);
        due("13: none", x.run(0, 0), 0);
        due("13: in turn, from THREAD 2", x.run(2, 5), 5);
        int[] steps = {2, 1, 2};
        for (int t = 0; t < 3; t++) due("13: STEPS of " + t, x.thread(t, 5), steps[t]);
        due("13: 200", x.run(0, 200), 200);
        due("13: ENDED ones are passed over", x.thread(0, 5), 3);
        due("13: THREAD 1 went on", x.thread(1, 5), 200);
        waiting();
    }

    /** THREAD 0 has THE LOCK and goes on; 1 WAITS; 2 is not STARTED. */
    private static void waiting() {
        TransactionCells x = Due.made(Due.COARSE, Due.code(a(BEGIN, DOING), a(SET, 0, 1), a(JUMP, 1)), Due.code(a(BEGIN, DOING)));
        x.start(0);
        x.start(1);
        x.code(2, 1);
        due("13: those that WAIT count for n", x.run(0, 10), 5);
        due("16: STEPS that did WAIT", x.thread(1, 6), 5);
        TransactionCells y = Due.made(Due.COARSE, Due.code(a(BEGIN, WAITING), a(READ, 0, 0), a(RETRY)), Due.code(a(SET, 0, 0)));
        y.cell(0, 1, 0);
        y.start(0);
        y.start(1);
        due("13: till three in a row did WAIT or were passed over", y.run(0, 200), 3 + 2);
        due("13: the first WAITS once, or twice", y.thread(0, 6), 1);
        due("13: again", y.run(1, 200), 0);
        due("13: one STEP only", y.thread(0, 6), 2);
    }
}
