/** Promises 16 to 24: what is told, THE ORDER, CHECK, keep() and back(), digest(). */
public final class ToldTest {
    private static final int NONE = Due.NONE, UNKNOWN = Due.UNKNOWN, OUTSIDE = Due.OUTSIDE, STATE = Due.STATE;
    private static final int SET = Due.SET, ADD = Due.ADD, READ = Due.READ, WRITE = Due.WRITE, LINK = Due.LINK, VOID = Due.VOID;
    private static final int ITEM = Due.ITEM, JUMP = Due.JUMP, BEGIN = Due.BEGIN, END = Due.END, FAIL = Due.FAIL, TRY = Due.TRY;
    private static final int DOING = Due.DOING, READING = Due.READING, WAITING = Due.WAITING, SURE = Due.SURE;

    private static void due(String what, long got, long want) {
        Due.due(what, got, want);
    }

    private static int[] a(int... act) {
        return act;
    }

    public static void main(String[] args) {
        thread();
        told();
        count();
        order();
        orderByPicture();
        sixty();
        sixtyByPicture();
        forge();
        check();
        checkBegins();
        keep();
        digest();
        Due.close();
    }

    private static void thread() {
        TransactionCells x = Due.made(Due.CLOCK, Due.code(a(SET, 0, 5), a(SET, 1, 6), a(SET, 2, 7), a(SET, 3, 8), a(BEGIN, READING), a(TRY, 9)));
        x.start(1);
        for (int i = 0; i < 6; i++) x.step(1);
        int[] want = {1, 6, 0, READING, 0, 6, 0, 1, 5, 6, 7, 8};
        for (int what = 0; what < 12; what++) due("16: thread(1, " + what + ")", x.thread(1, what), want[what]);
        due("16: another one", x.thread(0, 0), 0);
        due("16: what 12", x.thread(1, 12), OUTSIDE);
        due("16: what -1", x.thread(1, -1), OUTSIDE);
        due("16: least", x.thread(1, Integer.MIN_VALUE), OUTSIDE);
        due("16: THREAD 3", x.thread(3, 12), UNKNOWN);
        due("16: THREAD -1", x.thread(-1, 0), UNKNOWN);
    }

    private static void told() {
        int[][] code = Due.code(a(BEGIN, DOING), a(READ, 0, 0), a(WRITE, 1, 0), a(LINK, 2, 4), a(VOID, 3));
        TransactionCells x = Due.made(Due.EAGER, code, Due.code(a(SET, 1, 9), a(WRITE, 0, 1)), code);
        x.cell(0, 1, 3);
        x.start(0);
        x.start(1);
        x.start(2);
        Due.steps("17", x, 1, 1, 1);
        Due.steps("17", x, 2, 1, 1, 1, 1, 1);
        Due.steps("17", x, 0, 1, 1, 0);
        int[][] want = {
            {1, 9, 1, NONE, NONE, 1, NONE, 1, NONE, NONE, NONE, 0, 0, 0},
            {0, 0, 0, 2, NONE, NONE, NONE, NONE, NONE, NONE, 1, 0, 0, 9},
            {0, 0, 0, 2, NONE, NONE, NONE, NONE, NONE, NONE, 2, 0, 0, 4},
            {0, 0, 0, 2, NONE, NONE, NONE, NONE, NONE, NONE, 0, 0, 0, 0},
            {0, 0, 0, NONE, NONE, NONE, NONE, NONE, NONE, NONE, NONE, 0, 0, 0}};
        for (int c = 0; c < want.length; c++) {
            for (int what = 0; what < 14; what++) due("17: told(" + c + ", " + what + ")", x.told(c, what), want[c][what]);
        }
        due("17: what 14", x.told(0, 14), OUTSIDE);
        due("17: what -1", x.told(7, -1), OUTSIDE);
        due("17: CELL 8", x.told(8, 14), UNKNOWN);
        due("17: CELL -1", x.told(-1, 0), UNKNOWN);
    }

    private static void count() {
        TransactionCells x = Due.made(Due.COARSE, Due.code(a(BEGIN, SURE), a(READ, 0, 0), a(END)), Due.code(a(WRITE, 0, 0), a(BEGIN, DOING), a(END)));
        x.start(0);
        x.start(1);
        Due.steps("18", x, 1, 1, 1, 1);
        Due.steps("18", x, 0, 1);
        int[] want = {1, 2, 2, 3, 0, 0, 0, Due.COARSE};
        for (int what = 0; what < 8; what++) due("18: count(" + what + ")", x.count(what), want[what]);
        due("18: 8", x.count(8), OUTSIDE);
        due("18: -1", x.count(-1), OUTSIDE);
    }

    /** THREAD 1: a TRANSACTION that reads CELLS 0 and 1, writes 1, 2 and 3; and one that reads them again. */
    private static TransactionCells noted() {
        TransactionCells x = Due.made(Due.CLOCK, Due.code(),
            Due.code(a(BEGIN, WAITING), a(READ, 0, 0), a(ITEM, 1, 1, 3), a(WRITE, 1, 0), a(READ, 0, 1), a(LINK, 2, 5), a(VOID, 3), a(END),
                a(BEGIN, DOING), a(READ, 0, 0), a(READ, 0, 1), a(ITEM, 0, 2, 3), a(END)));
        x.cell(0, 1, -6);
        x.cell(1, 2, 5);
        x.cell(3, 1, 1);
        x.row(5, 3, 1);
        x.start(1);
        x.run(1, 200);
        return x;
    }

    private static void order() {
        TransactionCells x = noted();
        due("19: ENDED", x.thread(1, 0), 2);
        int[][] want = new int[2][34];
        for (int[] told : want) {
            for (int c = 0; c < 8; c++) told[2 + c] = told[18 + c] = NONE;
            told[0] = 1;
        }
        want[0][1] = WAITING;
        want[0][2] = 1;
        want[0][10] = -6;
        want[0][3] = 2;
        want[0][11] = 5;
        want[0][18 + 1] = 1;
        want[0][26 + 1] = -6;
        want[0][18 + 2] = 2;
        want[0][26 + 2] = 5;
        want[0][18 + 3] = 0;
        want[1][1] = DOING;
        want[1][2] = 1;
        want[1][10] = -6;
        want[1][3] = 1;
        want[1][11] = -6;
        want[1][4] = 2;
        want[1][12] = 5;
        for (int i = 0; i < 2; i++) {
            for (int what = 0; what < 34; what++) due("19: order(" + i + ", " + what + ")", x.order(i, what), want[i][what]);
        }
        due("19: what 34", x.order(0, 34), OUTSIDE);
        due("19: what -1", x.order(0, -1), OUTSIDE);
        due("19: 2", x.order(2, 34), UNKNOWN);
        due("19: -1", x.order(-1, 0), UNKNOWN);
        due("21: right", x.check(), NONE);
    }

    /** THREAD 0 reads pictures, 1 writes at END, 2 does what makes no CLOCK. */
    private static void orderByPicture() {
        TransactionCells x = Due.made(Due.PICTURE, Due.code(a(BEGIN, READING), a(READ, 0, 0), a(END), a(JUMP, 0)),
            Due.code(a(SET, 0, 1), a(WRITE, 0, 0), a(BEGIN, READING), a(END), a(WRITE, 0, 0)), Due.code(a(BEGIN, DOING), a(END)));
        x.cell(0, 1, 0);
        for (int t = 0; t < 3; t++) x.start(t);
        Due.steps("19", x, 0, 1);
        Due.steps("19: nothing is written", x, 2, 1, 1);
        Due.steps("19: 1 writes, reads nothing, writes", x, 1, 1, 1, 1, 1, 1);
        Due.steps("19: the picture", x, 0, 1, 1);
        int[] threads = {2, 0, 1, 1, 1};
        for (int i = 0; i < 5; i++) due("19: THREAD of " + i, x.order(i, 0), threads[i]);
        int[] kinds = {DOING, READING, DOING, READING, DOING};
        for (int i = 0; i < 5; i++) due("19: KIND of " + i, x.order(i, 1), kinds[i]);
        due("21: right", x.check(), NONE);
        Due.steps("19: nothing made the CLOCK more than START", x, 0, 1, 1, 1, 1);
        due("19: it is the last", x.order(5, 0), 0);
        due("21: right", x.check(), NONE);
        due("19: by another WAY it is the last too", lastByClock(), 0);
    }

    private static int lastByClock() {
        TransactionCells x = Due.made(Due.CLOCK, Due.code(a(BEGIN, READING), a(READ, 0, 1), a(END)), Due.code(a(WRITE, 0, 0)));
        x.cell(1, 1, 0);
        x.start(0);
        x.start(1);
        Due.steps("19", x, 0, 1, 1);
        Due.steps("19", x, 1, 1);
        Due.steps("19", x, 0, 1);
        return x.order(1, 0);
    }

    private static void sixty() {
        TransactionCells x = Due.made(Due.CLOCK, Due.code(a(WRITE, 0, 0), a(ADD, 0, 1), a(JUMP, 0)), Due.code(a(SET, 1, 1)));
        x.start(0);
        x.run(0, 180);
        due("18: 60", x.count(1), 60);
        due("18: 60 noted", x.count(2), 60);
        due("21: 60 are checked", x.check(), NONE);
        x.step(0);
        due("18: 61", x.count(1), 61);
        due("18: 60 noted", x.count(2), 60);
        due("21: not 61", x.check(), STATE);
        due("19: the 60th", x.order(59, 0), 0);
        due("19: the 61st", x.order(60, 0), UNKNOWN);
        due("20: the 61st", x.forge(60, 10, 0), UNKNOWN);
        due("20: the 60th", x.forge(59, 10, 0), 0);
        x.reset();
        due("21: after reset()", x.check(), NONE);
        x.cell(1, 1, 1);
        x.start(0);
        x.run(0, 3);
        x.reset();
        x.wipe();
        x.act(0, WRITE, 1, 1, 0);
        x.start(0);
        x.run(0, 1);
        for (int what = 2; what < 34; what++) {
            int want = what == 18 + 1 ? 1 : what < 10 || what >= 18 && what < 26 ? NONE : 0;
            due("19: nothing is left of notes before, " + what, x.order(0, what), want);
        }
    }

    /** The 61st is not noted, wherever it would stand; the 60th is, and all behind it go on by one. */
    private static void sixtyByPicture() {
        for (int writings = 58; writings <= 60; writings++) {
            TransactionCells x = Due.made(Due.PICTURE, Due.code(a(BEGIN, READING), a(END)), Due.code(a(WRITE, 0, 0), a(JUMP, 0)));
            x.start(0);
            x.start(1);
            x.step(0);
            for (int i = 0; i < writings; i++) Due.steps("19", x, 1, 1, 1);
            x.step(0);
            due("18: all", x.count(1), writings + 1);
            due("18: noted", x.count(2), Math.min(60, writings + 1));
            due("19: the first", x.order(0, 0), writings < 60 ? 0 : 1);
            due("19: the last", x.order(writings - 1, 0), 1);
            due("19: none behind", x.order(60, 0), UNKNOWN);
            due("21: check()", x.check(), writings < 60 ? NONE : STATE);
        }
    }

    private static void forge() {
        TransactionCells x = noted();
        due("20: UNKNOWN", x.forge(2, 0, 9), UNKNOWN);
        due("20: UNKNOWN", x.forge(-1, 2, 0), UNKNOWN);
        due("20: THREAD", x.forge(0, 0, 1), OUTSIDE);
        due("20: KIND", x.forge(0, 1, 1), OUTSIDE);
        due("20: what 34", x.forge(0, 34, 1), OUTSIDE);
        due("20: what -1", x.forge(0, -1, 1), OUTSIDE);
        for (int what = 2; what < 34; what++) {
            boolean sort = what < 10 || what >= 18 && what < 26;
            int was = x.order(1, what);
            due("20: -2 to " + what, x.forge(1, what, -2), sort ? OUTSIDE : was);
            due("20: 3 to " + what, x.forge(1, what, 3), sort ? OUTSIDE : -2);
            due("20: 2 to " + what, x.forge(1, what, 2), sort ? was : 3);
            due("20: -1 to " + what, x.forge(1, what, -1), 2);
            due("20: told", x.order(1, what), -1);
        }
        due("20: another one stays", x.order(0, 10), -6);
    }

    private static void check() {
        TransactionCells x = noted();
        due("21: right", x.check(), NONE);
        x.forge(1, 10 + 1, 5);
        due("21: another VALUE was read", x.check(), 8 + 1);
        x.forge(1, 10, 5);
        due("21: the least CELL", x.check(), 8);
        x.forge(0, 2 + 1, 1);
        due("21: the first TRANSACTION; a sort", x.check(), 1);
        x.forge(0, 2 + 1, NONE);
        due("21: it read nothing there", x.check(), 8);
        x.forge(1, 2, NONE);
        x.forge(1, 10 + 1, -6);
        due("21: right again", x.check(), NONE);
        x.forge(0, 26 + 1, 7);
        due("21: a WRITING that was read", x.check(), 8 + 1);
        x.forge(1, 2 + 1, NONE);
        due("21: not as at the end", x.check(), 480 + 1);
        x.forge(0, 18, 0);
        due("21: the least CELL at the end", x.check(), 480);
        x.forge(0, 18, NONE);
        x.forge(0, 18 + 1, NONE);
        due("21: what was not written", x.check(), 480 + 1);
        x.forge(1, 2 + 7, 0);
        due("21: NOTHING was read, and is there", x.check(), 480 + 1);
        x.forge(1, 2 + 7, 1);
        due("21: NUMBER 0 is not NOTHING", x.check(), 8 + 7);
    }

    private static void checkBegins() {
        TransactionCells x = Due.made(Due.CLOCK, Due.code(a(BEGIN, DOING), a(READ, 0, 0), a(SET, 1, 1), a(ADD, 0, 1), a(WRITE, 0, 0), a(END)));
        x.cell(0, 1, 5);
        for (int i = 0; i < 3; i++) {
            x.start(0);
            x.run(0, 9);
            due("21: from the latest reset()", x.check(), NONE);
            due("21: what it read", x.order(0, 10), 5 + i);
            x.reset();
        }
        x.cell(0, 1, 50);
        x.start(0);
        x.run(0, 9);
        due("21: from the latest cell()", x.check(), NONE);
    }

    private static void keep() {
        TransactionCells x = Due.made(Due.PICTURE, Due.code(a(ITEM, 3, 7, 0), a(BEGIN, DOING), a(READ, 0, 0), a(SET, 1, 1), a(ADD, 0, 1),
            a(WRITE, 0, 0), a(END), a(BEGIN, DOING), a(FAIL, 0)));
        due("23: none was", x.back(), STATE);
        x.cell(0, 1, 5);
        x.cell(7, 2, 2);
        x.row(2, 4, 1);
        x.item(2, 0, 1234);
        x.start(0);
        x.start(1);
        x.run(0, 12);
        long digest = x.digest();
        due("22: keep", x.keep(), 0);
        int done = x.run(0, 200);
        long later = x.digest();
        due("22: THREAD 0 FAILED", x.thread(0, 0), 3);
        int read = x.order(0, 10);
        x.forge(0, 10, 99);
        due("21: forged", x.check(), 0);
        x.reset();
        x.wipe();
        for (int i = 0; i < 9; i++) x.act(0, FAIL, 0, 0, 0);
        x.row(2, 1, 3);
        x.item(2, 0, 9);
        x.way(Due.COARSE);
        x.code(0, 4);
        x.cell(0, 0, 0);
        due("23: back", x.back(), 0);
        due("23: as it was", x.digest(), digest);
        due("23: THE ORDER", x.count(1), 0);
        due("23: it goes on as it did", x.run(0, 200), done);
        due("23: as it was then", x.digest(), later);
        due("23: THE ORDER", x.order(0, 10), read);
        due("23: right", x.check(), NONE);
        x.start(2);
        due("23: the CODES", x.step(2), 1);
        due("23: the ROWS", x.thread(2, 11), 1234);
        due("23: how many ITEMS", x.item(2, 1, 0), OUTSIDE);
        due("23: the LANE", x.item(2, 0, 1L << 40) + x.item(2, 0, 1234), 0);
        x.keep();
        x.reset();
        due("22: in place of the one before", x.back() + x.thread(2, 11), 1234);
        due("23: more than once", x.reset() + x.back() + x.thread(2, 11), 3 + 1234);
        x.forge(0, 10, 99);
        x.keep();
        x.forge(0, 10, read);
        x.back();
        due("23: THE ORDER, forged, is kept", x.check(), 0);
    }

    private static long digestOf(TransactionCells x) {
        long h = 41;
        for (int c = 0; c < 8; c++) {
            for (int what = 0; what < 14; what++) h = 31 * h + x.told(c, what);
        }
        for (int t = 0; t < 3; t++) {
            for (int what = 0; what < 12; what++) h = 31 * h + x.thread(t, what);
        }
        for (int what = 0; what < 8; what++) h = 31 * h + x.count(what);
        return h;
    }

    private static void digest() {
        long h = 41;
        for (int c = 0; c < 8; c++) {
            for (int what = 0; what < 14; what++) h = 31 * h + (what >= 3 && what < 11 ? -1 : 0);
        }
        for (int t = 0; t < 3; t++) {
            for (int what = 0; what < 12; what++) h = 31 * h + (what == 3 ? -1 : 0);
        }
        for (int what = 0; what < 8; what++) h = 31 * h + (what == 5 || what == 6 ? -1 : 0);
        due("24: of a new object", new TransactionCells().digest(), h);
        TransactionCells x = noted();
        due("24: of another one", x.digest(), digestOf(x));
        for (int steps = 1; steps < 6; steps++) {
            TransactionCells y = noted();
            y.reset();
            y.start(1);
            y.run(1, steps);
            due("24: on the way", y.digest(), digestOf(y));
        }
    }
}
