/** Promise 12: TRANSACTIONS by the four WAYS, those that sleep, SURE ones, FAILURES in them. */
public final class TransactionsTest {
    private static final int NONE = Due.NONE;
    private static final int SET = Due.SET, ADD = Due.ADD, READ = Due.READ, WRITE = Due.WRITE, VOID = Due.VOID, JUMP = Due.JUMP;
    private static final int BEGIN = Due.BEGIN, END = Due.END, RETRY = Due.RETRY, EITHER = Due.EITHER, NEST = Due.NEST;
    private static final int TRY = Due.TRY, FAIL = Due.FAIL, IF_NONE = Due.IF_NONE;
    private static final int DOING = Due.DOING, READING = Due.READING, WAITING = Due.WAITING, SURE = Due.SURE;
    private static final int CLOCK = Due.CLOCK, EAGER = Due.EAGER, PICTURE = Due.PICTURE, COARSE = Due.COARSE;

    private static void due(String what, long got, long want) {
        Due.due(what, got, want);
    }

    private static int[] a(int... act) {
        return act;
    }

    public static void main(String[] args) {
        clockOfVersions();
        startGoesOn();
        anewAtReading();
        anewAtReadingAgain();
        ownLog();
        eagerElder();
        eagerYounger();
        eagerReading();
        eagerSure();
        picture();
        pictureIsLost();
        coarse();
        coarseSleep();
        held();
        heldAtEnd();
        sureReads();
        oneSure();
        sleep();
        retryAnew();
        undone();
        failureAnew();
        sureCountsAsItFails();
        failureToOutside();
        outsideWaits();
        asAtItsBegin();
        Due.close();
    }

    /** THREADS 0 and 1 are GOING. */
    private static TransactionCells two(int way, int[][] first, int[][] second) {
        TransactionCells x = Due.made(way, first, second);
        for (int c = 0; c < 4; c++) x.cell(c, 1, 10 * c);
        x.start(0);
        x.start(1);
        return x;
    }

    private static int[][] increment(int kind, int c) {
        return Due.code(a(BEGIN, kind), a(READ, 0, c), a(SET, 1, 1), a(ADD, 0, 1), a(WRITE, c, 0), a(END));
    }

    /** A WRITING outside, of r[3] to CELLS in turn. */
    private static int[][] writer(int... cells) {
        int[][] acts = new int[cells.length + 1][];
        acts[0] = a(SET, 3, 77);
        for (int i = 0; i < cells.length; i++) acts[i + 1] = a(WRITE, cells[i], 3);
        return acts;
    }

    private static void clockOfVersions() {
        TransactionCells x = two(CLOCK, increment(DOING, 0), increment(DOING, 0));
        Due.steps("12: CLOCK", x, 0, 1, 1, 1, 1, 1);
        due("17: READS", x.told(0, 5), 0);
        due("17: LOG, sort", x.told(0, 8), 1);
        due("17: LOG", x.told(0, 11), 1);
        due("17: not another's", x.told(0, 12), 0);
        due("17: not another's", x.told(0, 9), NONE);
        due("17: not yet", x.told(0, 1), 0);
        due("16: KIND", x.thread(0, 3), DOING);
        Due.steps("12: CLOCK", x, 1, 1, 1);
        Due.steps("12: it COUNTS", x, 0, 1);
        due("17: READS are empty", x.told(0, 5), NONE);
        due("17: LOG is empty", x.told(0, 8), NONE);
        due("17: written", x.told(0, 1), 1);
        due("17: VERSION", x.told(0, 2), 1);
        due("18: CLOCK", x.count(0), 1);
        due("16: no TRANSACTION", x.thread(0, 3), NONE);
        Due.steps("12: the other one", x, 1, 1, 1, 1, 2);
        due("12: behind its BEGIN", x.thread(1, 1), 1);
        due("12: REGISTERS as at its BEGIN", x.thread(1, 8) + x.thread(1, 9), 0);
        due("12: READS are empty", x.told(0, 6), NONE);
        due("16: BEGAN ANEW", x.thread(1, 4), 1);
        due("18: BEGAN ANEW", x.count(4), 1);
        Due.steps("12: again", x, 1, 1, 1, 1, 1, 1, 4);
        due("17: both", x.told(0, 1), 2);
        due("18: begun ever", x.count(3), 2);
        due("18: in THE ORDER", x.count(1), 2);
    }

    private static void startGoesOn() {
        TransactionCells x = two(CLOCK, Due.code(a(BEGIN, DOING), a(READ, 0, 0), a(READ, 1, 1), a(READ, 2, 2), a(END)), writer(1, 2));
        Due.steps("12", x, 0, 1, 1);
        Due.steps("12", x, 1, 1, 1);
        Due.steps("12: START becomes the CLOCK", x, 0, 1);
        due("12: the new VALUE", x.thread(0, 9), 77);
        due("17: its VERSION", x.told(1, 5), 1);
        Due.steps("12", x, 1, 1);
        Due.steps("12: once more", x, 0, 1, 1, 4);
        due("12: the new VALUE", x.thread(0, 10), 77);
        due("21: right", x.check(), NONE);
    }

    private static void anewAtReading() {
        TransactionCells x = two(CLOCK, Due.code(a(BEGIN, DOING), a(READ, 0, 0), a(READ, 1, 1), a(END)), writer(0, 1));
        Due.steps("12", x, 0, 1, 1);
        Due.steps("12", x, 1, 1, 1, 1);
        Due.steps("12: READS do not stand any more", x, 0, 2, 1, 1, 1, 4);
        due("12: the new VALUE", x.thread(0, 8), 77);
        due("19: only what was read at last", x.order(2, 10), 77);
    }

    private static void anewAtReadingAgain() {
        TransactionCells x = two(CLOCK, Due.code(a(BEGIN, READING), a(READ, 0, 0), a(READ, 1, 0), a(END)), writer(0));
        Due.steps("12", x, 0, 1, 1);
        Due.steps("12", x, 1, 1, 1);
        Due.steps("12: another VERSION", x, 0, 2, 1, 1, 1);
        TransactionCells y = two(CLOCK, Due.code(a(BEGIN, DOING), a(READ, 0, 0), a(END)), writer(0));
        Due.steps("12", y, 0, 1);
        Due.steps("12", y, 1, 1, 1);
        Due.steps("12: above START, but nothing was read", y, 0, 1, 1);
    }

    private static void ownLog() {
        TransactionCells x = two(CLOCK, Due.code(a(BEGIN, DOING), a(WRITE, 1, 0), a(READ, 2, 1), a(VOID, 1), a(READ, 2, 1)), writer(1));
        Due.steps("12", x, 0, 1, 1);
        Due.steps("12", x, 1, 1, 1);
        Due.steps("12: its own LOG", x, 0, 1);
        due("12: that VALUE", x.thread(0, 10), 0);
        due("12: not to READS", x.told(1, 5), NONE);
        Due.steps("12: NOTHING in the LOG", x, 0, 1, 3);
        due("12: NULL", x.thread(0, 2), 1);
    }

    private static void eagerElder() {
        TransactionCells x = two(EAGER, increment(DOING, 0), increment(DOING, 0));
        Due.steps("12: EAGER", x, 0, 1);
        Due.steps("12: the younger one", x, 1, 1, 1, 1, 1, 1);
        due("17: OWNED", x.told(0, 3), 1);
        due("17: not HELD", x.told(0, 4), NONE);
        Due.steps("12: the elder one goes on", x, 0, 1);
        due("17: not OWNED", x.told(0, 3), NONE);
        due("12: the other one is behind its BEGIN", x.thread(1, 1), 1);
        due("12: with its REGISTERS", x.thread(1, 8), 0);
        due("12: and no LOG", x.told(0, 9), NONE);
        due("16: it BEGAN ANEW", x.thread(1, 4), 1);
        due("16: by no STEP of its own", x.thread(1, 5), 5);
        due("16: not the elder one", x.thread(0, 4), 0);
        Due.steps("12: on", x, 0, 1, 1, 1);
        due("17: OWNED", x.told(0, 3), 0);
        Due.steps("12: END", x, 0, 1);
        due("17: not OWNED", x.told(0, 3), NONE);
    }

    private static void eagerYounger() {
        TransactionCells x = two(EAGER, increment(DOING, 0), Due.code(a(BEGIN, DOING), a(WRITE, 0, 3), a(READ, 2, 0), a(END)));
        Due.steps("12", x, 0, 1, 1, 1, 1, 1);
        Due.steps("12: the younger one WAITS to write", x, 1, 1, 0, 0);
        due("16: STEPS that did WAIT", x.thread(1, 6), 2);
        due("16: STEPS that did not", x.thread(1, 5), 1);
        due("12: nothing was done", x.told(0, 9), NONE);
        Due.steps("12", x, 0, 1);
        Due.steps("12: then it writes", x, 1, 1, 1, 1);
        due("21: right", x.check(), NONE);
        // Its AGE stays when it BEGINS ANEW: it is still the ELDER.
        TransactionCells y = two(EAGER, Due.code(a(BEGIN, DOING), a(READ, 0, 0), a(READ, 1, 0), a(WRITE, 0, 1)), increment(DOING, 0));
        Due.steps("12", y, 0, 1, 1);
        y.reset();
        y.code(2, 1);
        y.start(0);
        y.start(1);
        y.start(2);
        Due.steps("12", y, 0, 1, 1);
        Due.steps("12", y, 1, 1, 1, 1, 1, 1, 1);
        Due.steps("12", y, 0, 2, 1);
        Due.steps("12: begun after", y, 2, 1, 1, 1, 1, 1);
        Due.steps("12: an AGE is kept", y, 0, 1, 1);
        due("17: OWNED", y.told(0, 3), 0);
        due("16: the younger one BEGAN ANEW", y.thread(2, 4), 1);
    }

    private static void eagerReading() {
        TransactionCells x = two(EAGER, increment(DOING, 0), Due.code(a(BEGIN, READING), a(READ, 0, 0), a(END)));
        Due.steps("12", x, 1, 1);
        Due.steps("12", x, 0, 1, 1, 1, 1, 1);
        Due.steps("12: an elder READING one goes on", x, 1, 1, 1);
        due("16: the owner BEGAN ANEW", x.thread(0, 4), 1);
        TransactionCells y = two(EAGER, increment(DOING, 0), Due.code(a(BEGIN, READING), a(READ, 0, 0), a(END)));
        Due.steps("12", y, 0, 1, 1, 1, 1, 1);
        Due.steps("12: a younger READING one WAITS", y, 1, 1, 0);
        // Outside of TRANSACTIONS: OWNED hinders the WRITING alone.
        TransactionCells z = two(EAGER, increment(DOING, 0), Due.code(a(READ, 2, 0), a(WRITE, 1, 2), a(WRITE, 0, 2)));
        Due.steps("12", z, 0, 1, 1, 1, 1, 1);
        Due.steps("12: outside", z, 1, 1, 1, 0);
    }

    private static void eagerSure() {
        TransactionCells x = two(EAGER, increment(DOING, 0), increment(SURE, 0));
        Due.steps("12", x, 0, 1, 1, 1, 1, 1);
        Due.steps("12: SURE is ELDER than all", x, 1, 1, 1);
        due("16: the owner BEGAN ANEW", x.thread(0, 4), 1);
        due("17: HELD", x.told(0, 4), 1);
        due("17: not OWNED", x.told(0, 3), NONE);
        Due.steps("12: HELD", x, 0, 0);
        Due.steps("12: it writes", x, 1, 1, 1, 1);
        due("17: OWNED", x.told(0, 3), 1);
        Due.steps("12: HELD", x, 0, 0);
        Due.steps("12: END", x, 1, 1);
        due("17: neither", x.told(0, 3) + x.told(0, 4), NONE + NONE);
        Due.steps("12: on", x, 0, 1, 1, 1, 1, 1);
        due("17: both", x.told(0, 1), 2);
    }

    private static int[][] pictures(int... cells) {
        int[][] acts = new int[cells.length + 2][];
        acts[0] = a(BEGIN, READING);
        for (int i = 0; i < cells.length; i++) acts[i + 1] = a(READ, i, cells[i]);
        acts[cells.length + 1] = a(END);
        return acts;
    }

    private static void picture() {
        TransactionCells x = two(PICTURE, pictures(1, 2, 1), writer(1, 2));
        Due.steps("12: PICTURE", x, 0, 1);
        Due.steps("12: outside", x, 1, 1, 1, 1);
        Due.steps("12: what was", x, 0, 1, 1);
        due("12: VALUE at START", x.thread(0, 8), 10);
        due("12: VALUE at START", x.thread(0, 9), 20);
        due("12: not in READS", x.told(1, 5), NONE);
        Due.steps("12: END", x, 0, 1, 1, 4);
        due("19: ahead of what made the CLOCK more", x.order(0, 0), 0);
        due("19: what was read", x.order(0, 10 + 1), 10);
        due("19: of a sort", x.order(0, 2 + 1), 1);
        due("21: right", x.check(), NONE);
        // A DOING one by PICTURE reads what is, and is checked.
        TransactionCells y = two(PICTURE, increment(DOING, 1), writer(1));
        Due.steps("12", y, 0, 1);
        Due.steps("12", y, 1, 1, 1);
        Due.steps("12: a DOING one", y, 0, 1);
        due("12: what is", y.thread(0, 8), 77);
        due("17: READS", y.told(1, 5), 1);
    }

    /** Four VALUES are kept, the present one too: after the fourth WRITING the first VALUE is gone. */
    private static void pictureIsLost() {
        for (int writings = 1; writings <= 4; writings++) {
            int[] cells = new int[writings];
            TransactionCells x = two(PICTURE, pictures(0, 0), writer(cells));
            Due.steps("12", x, 0, 1);
            x.step(1);
            for (int i = 0; i < writings; i++) Due.steps("12", x, 1, 1);
            Due.steps("12: after " + writings, x, 0, writings < 4 ? 1 : 2);
            due("12: VALUE after " + writings, x.thread(0, 8), 0);
            Due.steps("12: on", x, 0, 1);
            due("12: VALUE after " + writings, x.thread(0, writings < 4 ? 9 : 8), writings < 4 ? 0 : 77);
        }
    }

    private static void coarse() {
        TransactionCells x = two(COARSE, increment(DOING, 0), increment(READING, 0));
        Due.steps("12: takes THE LOCK", x, 0, 1);
        due("18: THE LOCK", x.count(5), 0);
        Due.steps("12: WAITS", x, 1, 0);
        due("18: begun", x.count(3), 1);
        Due.steps("12: on", x, 0, 1, 1, 1, 1);
        due("17: COARSE comes to READS", x.told(0, 5), 0);
        Due.steps("12: END", x, 0, 1);
        due("18: THE LOCK is free", x.count(5), NONE);
        Due.steps("12: then the other one", x, 1, 1, 1, 1, 1, 3);
        due("12: BARRED", x.thread(1, 2), 5);
        due("18: THE LOCK is free", x.count(5), NONE);
        // Outside of TRANSACTIONS.
        TransactionCells y = two(COARSE, increment(DOING, 0), Due.code(a(READ, 0, 1), a(WRITE, 1, 0)));
        Due.steps("12", y, 0, 1);
        Due.steps("12: READING WAITS", y, 1, 0);
        Due.steps("12", y, 0, 1, 1, 1, 1, 1);
        Due.steps("12: READING", y, 1, 1);
        y.reset();
        y.start(0);
        y.start(1);
        Due.steps("12", y, 1, 1);
        Due.steps("12", y, 0, 1);
        Due.steps("12: WRITING WAITS", y, 1, 0);
        // SURE ones take THE LOCK, and hold nothing.
        TransactionCells z = two(COARSE, increment(SURE, 0), increment(DOING, 0));
        Due.steps("12", z, 0, 1, 1, 1, 1, 1);
        due("17: not HELD", z.told(0, 4), NONE);
        due("17: READS", z.told(0, 5), 0);
        due("18: SURE", z.count(6), 0);
        Due.steps("12: WAITS", z, 1, 0);
        Due.steps("12", z, 0, 1);
        due("18: no SURE one", z.count(6), NONE);
    }

    private static int[][] untilFilled(int c) {
        return Due.code(a(BEGIN, WAITING), a(SET, 1, 1), a(WRITE, 3, 1), a(READ, 0, c), a(IF_NONE, 0, 6), a(END), a(RETRY));
    }

    private static void coarseSleep() {
        TransactionCells x = two(COARSE, untilFilled(0), Due.code(a(SET, 0, 5), a(WRITE, 0, 0), a(BEGIN, DOING), a(END)));
        Due.steps("12", x, 0, 1, 1, 1, 1, 1, 5);
        due("16: ASLEEP", x.thread(0, 0), 4);
        due("16: KIND", x.thread(0, 3), WAITING);
        due("18: THE LOCK is free", x.count(5), NONE);
        due("17: LOG is empty", x.told(3, 8), NONE);
        due("17: READS stay", x.told(0, 5), 0);
        Due.steps("12: sleeps on", x, 0, 0);
        Due.steps("12: wakes it", x, 1, 1, 1, 1);
        Due.steps("12: another THREAD has THE LOCK", x, 0, 0);
        due("16: still ASLEEP", x.thread(0, 0), 4);
        Due.steps("12", x, 1, 1);
        Due.steps("12: wakes", x, 0, 2);
        due("18: takes THE LOCK", x.count(5), 0);
        due("16: GOING", x.thread(0, 0), 1);
        due("12: behind its BEGIN", x.thread(0, 1), 1);
        due("12: REGISTERS as at its BEGIN", x.thread(0, 9), 0);
        Due.steps("12: on", x, 0, 1, 1, 1, 1, 1, 3);
        due("16: past its END it is the CODE's RETRY", x.thread(0, 2), 5);
    }

    private static void held() {
        TransactionCells x = two(CLOCK, increment(SURE, 1), Due.code(a(BEGIN, DOING), a(READ, 0, 1), a(WRITE, 1, 0), a(END)));
        Due.steps("12: SURE", x, 0, 1);
        due("18: SURE is under way", x.count(6), 0);
        Due.steps("12: it reads", x, 0, 1);
        due("17: HELD from now on", x.told(1, 4), 0);
        due("17: not OWNED", x.told(1, 3), NONE);
        Due.steps("12: another one WAITS to read", x, 1, 1, 0);
        Due.steps("12: END", x, 0, 1, 1, 1, 1);
        due("17: HELD no more", x.told(1, 4), NONE);
        due("18: no SURE one", x.count(6), NONE);
        Due.steps("12: on", x, 1, 1, 1, 1);
        TransactionCells y = two(CLOCK, Due.code(a(BEGIN, SURE), a(WRITE, 2, 0), a(END)), Due.code(a(BEGIN, DOING), a(VOID, 2), a(END)));
        Due.steps("12: SURE writes", y, 0, 1, 1);
        due("17: HELD", y.told(2, 4), 0);
        Due.steps("12: another one WAITS to write", y, 1, 1, 0);
        due("12: nothing in its LOG", y.told(2, 9), NONE);
        Due.steps("12: END", y, 0, 1);
        Due.steps("12: on", y, 1, 1, 1);
        // A READING one by PICTURE WAITS too.
        TransactionCells z = two(PICTURE, increment(SURE, 0), pictures(0));
        Due.steps("12: SURE reads", z, 0, 1, 1);
        Due.steps("12: a PICTURE of what is HELD", z, 1, 1, 0);
    }

    private static void heldAtEnd() {
        TransactionCells x = two(CLOCK, increment(SURE, 3), Due.code(a(BEGIN, DOING), a(READ, 0, 3), a(END)));
        Due.steps("12", x, 1, 1, 1);
        Due.steps("12: SURE", x, 0, 1, 1);
        Due.steps("12: a CELL of READS is HELD", x, 1, 0);
        Due.steps("12", x, 0, 1, 1, 1, 1);
        Due.steps("12: another VERSION", x, 1, 2);
        TransactionCells y = two(CLOCK, increment(SURE, 2), Due.code(a(BEGIN, DOING), a(WRITE, 2, 0), a(END)));
        Due.steps("12", y, 1, 1, 1);
        Due.steps("12: SURE", y, 0, 1, 1);
        Due.steps("12: a CELL of the LOG is HELD", y, 1, 0);
        Due.steps("12", y, 0, 1, 1, 1, 1);
        Due.steps("12: it COUNTS", y, 1, 1);
        due("21: right", y.check(), NONE);
        TransactionCells z = two(CLOCK, increment(SURE, 0), Due.code(a(BEGIN, DOING), a(READ, 0, 1), a(END)));
        Due.steps("12", z, 1, 1, 1);
        Due.steps("12", z, 0, 1, 1);
        Due.steps("12: another CELL is HELD", z, 1, 1);
    }

    private static void sureReads() {
        TransactionCells x = two(CLOCK, Due.code(a(BEGIN, SURE), a(READ, 0, 1), a(READ, 1, 2), a(WRITE, 1, 1), a(READ, 2, 1), a(END)), writer(2));
        Due.steps("12: SURE", x, 0, 1, 1);
        Due.steps("12: another one writes", x, 1, 1, 1);
        Due.steps("12: SURE goes on", x, 0, 1, 1, 1);
        due("17: not in READS", x.told(1, 5), NONE);
        due("12: its own LOG", x.thread(0, 10), 77);
        Due.steps("12: END", x, 0, 1);
        due("19: KIND", x.order(1, 1), SURE);
        due("19: what it read", x.order(1, 10 + 1), 10);
        due("19: what it read", x.order(1, 10 + 2), 77);
        due("19: what it wrote", x.order(1, 26 + 1), 77);
        due("21: right", x.check(), NONE);
    }

    private static void oneSure() {
        TransactionCells x = two(CLOCK, increment(SURE, 0), increment(SURE, 1));
        Due.steps("12", x, 0, 1);
        Due.steps("12: one at a time", x, 1, 0);
        due("16: no TRANSACTION", x.thread(1, 3), NONE);
        Due.steps("12", x, 0, 1, 1, 1, 1, 1);
        Due.steps("12: then the other one", x, 1, 1);
        due("18: SURE", x.count(6), 1);
    }

    private static void sleep() {
        TransactionCells x = two(EAGER, untilFilled(0), Due.code(a(SET, 0, 5), a(WRITE, 3, 0), a(WRITE, 0, 0)));
        Due.steps("12", x, 0, 1, 1, 1);
        due("17: OWNED", x.told(3, 3), 0);
        Due.steps("12", x, 0, 1, 1, 5);
        due("17: nothing is OWNED", x.told(3, 3), NONE);
        due("17: LOG is empty", x.told(3, 8), NONE);
        due("17: LOG is empty", x.told(3, 11), 0);
        due("12: REGISTERS stay", x.thread(0, 9), 1);
        Due.steps("12: WAITS", x, 0, 0);
        Due.steps("12: another CELL", x, 1, 1, 1);
        Due.steps("12: WAITS", x, 0, 0);
        due("16: STEPS that did WAIT", x.thread(0, 6), 2);
        Due.steps("12: the CELL that was read", x, 1, 1);
        Due.steps("12: BEGINS ANEW", x, 0, 2, 1, 1, 1, 1, 1);
        due("16: once", x.thread(0, 4), 1);
        due("17: written", x.told(3, 1), 1);
        due("21: right", x.check(), NONE);
        // Who has read nothing sleeps on.
        TransactionCells y = two(CLOCK, Due.code(a(BEGIN, WAITING), a(RETRY)), writer(0, 1, 2));
        Due.steps("12", y, 0, 1, 5);
        Due.steps("12", y, 1, 1, 1, 1, 1);
        Due.steps("12: nothing was read", y, 0, 0);
    }

    private static void retryAnew() {
        TransactionCells x = two(CLOCK, untilFilled(0), Due.code(a(SET, 0, 5), a(WRITE, 0, 0)));
        Due.steps("12", x, 0, 1, 1, 1, 1, 1);
        Due.steps("12", x, 1, 1, 1);
        Due.steps("12: RETRY, and it is other already", x, 0, 2);
        due("16: GOING", x.thread(0, 0), 1);
        // READS of the first stay: they wake the second.
        TransactionCells y = two(CLOCK, Due.code(a(BEGIN, WAITING), a(EITHER, 4), a(READ, 0, 0), a(RETRY), a(READ, 1, 1), a(RETRY)), writer(0));
        Due.steps("12", y, 0, 1, 1, 1, 1, 1, 5);
        due("17: READS of the first", y.told(0, 5), 0);
        due("17: READS of the second", y.told(1, 5), 0);
        Due.steps("12", y, 1, 1, 1);
        Due.steps("12: wakes", y, 0, 2);
        due("16: SCOPES as at its BEGIN", y.thread(0, 7), 0);
    }

    private static void undone() {
        for (int way = 0; way < 4; way++) {
            TransactionCells x = two(way, Due.code(a(SET, 1, 4), a(BEGIN, DOING), a(READ, 1, 3), a(WRITE, 0, 1), a(FAIL, 0)), Due.code());
            Due.steps("12: by way " + way, x, 0, 1, 1, 1, 1, 3);
            due("12: REGISTERS as at its BEGIN", x.thread(0, 9), 4);
            due("12: not written", x.told(0, 1), 0);
            due("12: no LOG", x.told(0, 8), NONE);
            due("12: no READS", x.told(3, 5), NONE);
            due("12: nothing OWNED", x.told(0, 3), NONE);
            due("12: THE LOCK is free", x.count(5), NONE);
            due("12: no TRANSACTION", x.thread(0, 3), NONE);
            due("12: FAILED", x.thread(0, 0), 3);
            due("12: by 10", x.thread(0, 2), 10);
            due("12: not in THE ORDER", x.count(1), 0);
            due("18: begun", x.count(3), 1);
        }
    }

    private static void failureAnew() {
        TransactionCells x = two(CLOCK, Due.code(a(BEGIN, DOING), a(NEST, 9), a(READ, 0, 0), a(FAIL, 0)), writer(0));
        x.reset();
        x.code(0, 0);
        x.start(0);
        x.start(1);
        Due.steps("12: a NEST catches, as READS are other", x, 0, 1, 1, 1);
        Due.steps("12", x, 1, 1, 1);
        Due.steps("12: caught", x, 0, 1);
        due("12: its handler", x.thread(0, 1), 9);
        Due.steps("12: INDEX, and READS are other: it BEGINS ANEW", x, 0, 2);
        due("12: behind its BEGIN", x.thread(0, 1), 1);
        due("16: not FAILED", x.thread(0, 0), 1);
        Due.steps("12: again", x, 0, 1, 1, 1, 3);
        due("12: INDEX", x.thread(0, 2), 2);
    }

    private static void sureCountsAsItFails() {
        TransactionCells x = two(CLOCK, Due.code(a(TRY, 6), a(BEGIN, SURE), a(SET, 1, 8), a(READ, 2, 3), a(WRITE, 0, 1), a(FAIL, 1), a(FAIL, 1)),
            Due.code());
        Due.steps("12: SURE", x, 0, 1, 1, 1, 1, 1);
        Due.steps("12: fails, and is caught outside", x, 0, 1);
        due("12: r[0]", x.thread(0, 8), 10);
        due("12: REGISTERS stay", x.thread(0, 9), 8);
        due("12: it COUNTS", x.told(0, 1), 8);
        due("12: in THE ORDER", x.order(0, 26), 8);
        due("12: what it read", x.order(0, 10 + 3), 30);
        due("12: nothing HELD", x.told(0, 4), NONE);
        due("18: no SURE one", x.count(6), NONE);
        Due.steps("12: nothing catches", x, 0, 3);
        due("21: right", x.check(), NONE);
        TransactionCells y = two(COARSE, Due.code(a(BEGIN, SURE), a(WRITE, 0, 0)), Due.code());
        Due.steps("12: the CODE's end in a SURE one", y, 0, 1, 1, 3);
        due("12: it COUNTS", y.count(1), 1);
        due("18: THE LOCK is free", y.count(5), NONE);
    }

    private static void failureToOutside() {
        TransactionCells x = two(CLOCK, Due.code(a(SET, 1, 3), a(TRY, 7), a(BEGIN, WAITING), a(EITHER, 9), a(SET, 1, 4), a(WRITE, 0, 1),
            a(FAIL, 1)), Due.code());
        Due.steps("12", x, 0, 1, 1, 1, 1, 1, 1);
        due("16: SCOPES", x.thread(0, 7), 2);
        Due.steps("12: undone, and caught outside", x, 0, 1);
        due("12: r[0]", x.thread(0, 8), 14);
        due("12: REGISTERS as at its BEGIN", x.thread(0, 9), 3);
        due("12: no TRANSACTION", x.thread(0, 3), NONE);
        due("12: no SCOPE", x.thread(0, 7), 0);
        due("12: the handler", x.thread(0, 1), 7);
        Due.steps("12: ENDED", x, 0, 4);
    }

    private static void outsideWaits() {
        TransactionCells x = two(CLOCK, increment(SURE, 3), Due.code(a(READ, 0, 3), a(WRITE, 1, 0), a(READ, 0, 1), a(WRITE, 3, 0)));
        Due.steps("12", x, 0, 1, 1);
        Due.steps("12: READING of a HELD one WAITS", x, 1, 0);
        Due.steps("12", x, 0, 1, 1, 1, 1);
        Due.steps("12", x, 1, 1, 1, 1);
        x.reset();
        x.start(0);
        x.start(1);
        Due.steps("12", x, 1, 1, 1, 1);
        Due.steps("12", x, 0, 1, 1);
        Due.steps("12: WRITING of a HELD one WAITS", x, 1, 0);
        due("18: CLOCK", x.count(0), 1);
    }

    private static void asAtItsBegin() {
        TransactionCells x = two(CLOCK, Due.code(a(TRY, 9), a(JUMP, 3), a(SET, 0, 0), a(BEGIN, DOING), a(TRY, 9), a(READ, 1, 0), a(NEST, 9),
            a(READ, 2, 1), a(END)), writer(0, 1));
        Due.steps("12", x, 0, 1, 1, 1, 1, 1, 1);
        due("16: SCOPES", x.thread(0, 7), 3);
        Due.steps("12", x, 1, 1, 1, 1);
        Due.steps("12: BEGINS ANEW", x, 0, 2);
        due("12: SCOPES as at its BEGIN", x.thread(0, 7), 1);
        due("12: behind its BEGIN", x.thread(0, 1), 4);
        due("12: REGISTERS as at its BEGIN", x.thread(0, 9), 0);
    }
}
