/** Promises 1 to 11: a new object, and what is told ahead. */
public final class AheadTest {
    private static final int NONE = Due.NONE, UNKNOWN = Due.UNKNOWN, OUTSIDE = Due.OUTSIDE;
    private static final int STATE = Due.STATE, FULL = Due.FULL, SIZE = Due.SIZE;

    private static void due(String what, long got, long want) {
        Due.due(what, got, want);
    }

    public static void main(String[] args) {
        newObject();
        act();
        argumentsOfActs();
        wipe();
        row();
        item();
        lanes();
        tear();
        cell();
        way();
        code();
        start();
        reset();
        Due.close();
    }

    private static void newObject() {
        TransactionCells x = new TransactionCells();
        for (int c = 0; c < 8; c++) {
            for (int what = 0; what < 14; what++) {
                boolean isNone = what >= 3 && what <= 10;
                due("1: told(" + c + ", " + what + ")", x.told(c, what), isNone ? NONE : 0);
            }
        }
        for (int t = 0; t < 3; t++) {
            for (int what = 0; what < 12; what++) {
                due("1: thread(" + t + ", " + what + ")", x.thread(t, what), what == 3 ? NONE : 0);
            }
        }
        int[] counts = {0, 0, 0, 0, 0, NONE, NONE, Due.CLOCK};
        for (int what = 0; what < 8; what++) due("1: count(" + what + ")", x.count(what), counts[what]);
        for (int k = 0; k < 6; k++) due("1: ROWS are MISSING", x.tear(k), 0);
        due("1: no CODE", x.wipe(), 0);
        due("1: THE ORDER is empty", x.order(0, 0), UNKNOWN);
        due("1: right", x.check(), NONE);
        due("1: nothing kept", x.back(), STATE);
        due("1: nothing explored", x.end(-1, 0), UNKNOWN);
        due("1: RESET", x.reset(), 0);
    }

    private static void act() {
        TransactionCells x = new TransactionCells();
        for (int place = 0; place < 40; place++) due("2: PLACE", x.act(5, 0, 0, place, 0), place);
        due("2: 41st", x.act(5, 0, 0, 0, 0), FULL);
        due("2: another CODE has room", x.act(0, 0, 0, 0, 0), 0);
        due("2: CODE -1", x.act(-1, 0, 0, 0, 0), UNKNOWN);
        due("2: CODE 6", x.act(6, 0, 0, 0, 0), UNKNOWN);
        due("2: UNKNOWN before OUTSIDE", x.act(6, 99, 0, 0, 0), UNKNOWN);
        due("2: kind -1", x.act(0, -1, 0, 0, 0), OUTSIDE);
        due("2: kind 22", x.act(0, 22, 0, 0, 0), OUTSIDE);
        due("2: OUTSIDE before FULL", x.act(5, 22, 0, 0, 0), OUTSIDE);
        x.start(2);
        due("2: a THREAD goes", x.act(0, 0, 0, 0, 0), STATE);
        due("2: OUTSIDE before STATE", x.act(0, 22, 0, 0, 0), OUTSIDE);
        due("2: STATE before FULL", x.act(5, 0, 0, 0, 0), STATE);
        due("2: refusals change nothing", x.reset() + x.wipe(), 1 + 41);
    }

    /** Each letter is what a, b or c names: r REGISTER, c CELL, w ROW, p PLACE, k KIND, - not looked at. */
    private static void argumentsOfActs() {
        String[] names = {
            "r--", "rr-", "rr-", "rr-", "rc-", "cr-", "cw-", "c--", "rcr", "p--", "rp-",
            "k--", "---", "---", "p--", "p--", "p--", "---", "p--", "---", "r--", "rr-"};
        for (int kind = 0; kind < names.length; kind++) {
            TransactionCells x = new TransactionCells();
            for (int i = 0; i < 3; i++) {
                char name = names[kind].charAt(i);
                int many = name == 'r' || name == 'k' ? 4 : name == 'c' ? 8 : name == 'w' ? 6 : 41;
                int[] tried = {-1, many - 1, many, Integer.MIN_VALUE, Integer.MAX_VALUE};
                for (int v : tried) {
                    boolean fits = name == '-' || v == many - 1;
                    int got = x.act(0, kind, i == 0 ? v : 0, i == 1 ? v : 0, i == 2 ? v : 0);
                    due("2: kind " + kind + ", argument " + i + " " + v, got >= 0 ? 0 : got, fits ? 0 : OUTSIDE);
                }
            }
        }
    }

    private static void wipe() {
        TransactionCells x = new TransactionCells();
        x.act(0, 0, 0, 0, 0);
        x.act(0, 0, 0, 0, 0);
        x.act(5, 0, 0, 0, 0);
        x.start(0);
        due("3: a THREAD goes", x.wipe(), STATE);
        x.step(0);
        x.step(0);
        due("3: the CODE is still there", x.step(0), 4);
        due("3: a THREAD is ENDED", x.wipe(), STATE);
        x.reset();
        due("3: how many ACTS", x.wipe(), 3);
        due("3: none is left", x.wipe(), 0);
        due("3: ACTS come from 0 again", x.act(0, 0, 0, 0, 0), 0);
    }

    /** A house whose THREAD 0 takes ITEM i of ROW 0, by CELL 0, to REGISTER 1. */
    private static TransactionCells taker(int i) {
        TransactionCells x = Due.made(Due.CLOCK, Due.code(Due.a(Due.SET, 0, i), Due.a(Due.ITEM, 1, 0, 0)));
        x.cell(0, 2, 0);
        return x;
    }

    /** Starts THREAD 0 of a taker: the FAILURE less 100, or what it took. */
    private static int taken(TransactionCells x) {
        x.reset();
        x.start(0);
        x.step(0);
        return x.step(0) == 3 ? x.thread(0, 2) - 100 : x.thread(0, 9);
    }

    private static void row() {
        TransactionCells x = taker(15);
        due("4: ROW", x.row(0, 3, 16), 0);
        x.item(0, 15, 7);
        due("4: the last ITEM", taken(x), 7);
        due("4: anew", x.row(0, 3, 16), 0);
        due("4: ITEMS are 0", taken(x), 0);
        due("4: fewer", x.row(0, 3, 15), 0);
        due("4: INDEX", taken(x), 2 - 100);
        due("4: none", x.row(0, 4, 0), 0);
        due("4: no ITEM", x.item(0, 0, 1), OUTSIDE);
        due("4: ROW -1", x.row(-1, 0, 0), UNKNOWN);
        due("4: ROW 6", x.row(6, 9, 99), UNKNOWN);
        due("4: LANE -1", x.row(0, -1, 0), OUTSIDE);
        due("4: LANE 5", x.row(0, 5, 0), OUTSIDE);
        due("4: 17", x.row(0, 0, 17), OUTSIDE);
        due("4: -1", x.row(0, 0, -1), SIZE);
        due("4: least", x.row(0, 0, Integer.MIN_VALUE), SIZE);
        due("4: OUTSIDE before SIZE", x.row(0, 5, -1), OUTSIDE);
        due("4: every LANE", x.row(5, 0, 1) + x.row(5, 1, 1) + x.row(5, 2, 1) + x.row(5, 3, 1) + x.row(5, 4, 1), 0);
        due("4: refusals change nothing", x.item(0, 0, 1), OUTSIDE);
    }

    private static void item() {
        TransactionCells x = taker(2);
        due("5: MISSING", x.item(0, 0, 1), STATE);
        due("5: STATE before OUTSIDE", x.item(0, 99, 1), STATE);
        x.row(0, 3, 3);
        due("5: ITEM", x.item(0, 2, -9), 0);
        due("5: that one", taken(x), -9);
        due("5: i 3", x.item(0, 3, 1), OUTSIDE);
        due("5: i -1", x.item(0, -1, 1), OUTSIDE);
        due("5: ROW 6", x.item(6, 0, 1), UNKNOWN);
        due("5: ROW -1", x.item(-1, 0, 1), UNKNOWN);
        due("5: also as THREADS go", x.item(0, 2, 8), 0);
        due("5: the others stay", taken(x), 8);
    }

    private static void lanes() {
        long[] given = {3, 300, 70000, 1L << 33 | 5, -4, -3, 128, 32768, 1L << 31};
        int[][] want = {
            {1, 0, 0, 1, 0, 1, 0, 0, 0},
            {3, 44, 112, 5, -4, -3, -128, 0, 0},
            {3, 300, 4464, 5, -4, -3, 128, -32768, 0},
            {3, 300, 70000, 5, -4, -3, 128, 32768, Integer.MIN_VALUE},
            {3, 300, 70000, 5, -4, -3, 128, 32768, Integer.MIN_VALUE}};
        TransactionCells x = taker(0);
        for (int lane = 0; lane < 5; lane++) {
            x.row(0, lane, 1);
            for (int i = 0; i < given.length; i++) {
                x.item(0, 0, given[i]);
                due("5: LANE " + lane + " of " + given[i], taken(x), want[lane][i]);
            }
        }
    }

    private static void tear() {
        TransactionCells x = taker(0);
        x.row(0, 3, 2);
        due("6: it was there", taken(x), 0);
        due("6: torn", x.tear(0), 1);
        due("6: so already", x.tear(0), 0);
        due("6: NULL", taken(x), 1 - 100);
        due("6: MISSING", x.item(0, 0, 1), STATE);
        due("6: ROW -1", x.tear(-1), UNKNOWN);
        due("6: ROW 6", x.tear(6), UNKNOWN);
    }

    private static void cell() {
        TransactionCells x = new TransactionCells();
        due("7: NUMBER", x.cell(7, 1, Integer.MIN_VALUE), 0);
        due("7: sort", x.told(7, 0), 1);
        due("7: NUMBER told", x.told(7, 1), Integer.MIN_VALUE);
        due("7: VERSION", x.told(7, 2), 0);
        due("7: ROW", x.cell(0, 2, 5), 0);
        due("7: sort", x.told(0, 0), 2);
        due("7: ROW told", x.told(0, 1), 5);
        due("7: ROW 6", x.cell(0, 2, 6), UNKNOWN);
        due("7: ROW -1", x.cell(0, 2, -1), UNKNOWN);
        due("7: sort 3", x.cell(0, 3, 6), OUTSIDE);
        due("7: sort -1", x.cell(0, -1, 0), OUTSIDE);
        due("7: CELL 8", x.cell(8, 3, 0), UNKNOWN);
        due("7: CELL -1", x.cell(-1, 1, 0), UNKNOWN);
        due("7: still", x.told(0, 1), 5);
        due("7: NOTHING, v is not looked at", x.cell(0, 0, 99), 0);
        due("7: sort", x.told(0, 0), 0);
        due("7: what it is", x.told(0, 1), 0);
        x.start(1);
        due("7: a THREAD goes", x.cell(0, 1, 1), STATE);
        due("7: OUTSIDE before STATE", x.cell(0, 3, 1), OUTSIDE);
        due("7: UNKNOWN before STATE", x.cell(0, 2, 9), UNKNOWN);
        due("7: check is from here", x.check(), NONE);
    }

    private static void way() {
        TransactionCells x = new TransactionCells();
        due("8: was CLOCK", x.way(3), 0);
        due("8: was COARSE", x.way(2), 3);
        due("8: -1", x.way(-1), OUTSIDE);
        due("8: 4", x.way(4), OUTSIDE);
        x.start(0);
        due("8: a THREAD goes", x.way(1), STATE);
        due("8: OUTSIDE before STATE", x.way(4), OUTSIDE);
        due("8: told", x.count(7), 2);
        x.reset();
        due("8: reset() leaves it", x.way(0), 2);
    }

    private static void code() {
        TransactionCells x = Due.made(Due.CLOCK, Due.code(Due.a(Due.SET, 0, 10)), Due.code(Due.a(Due.SET, 0, 11)));
        due("9: CODE", x.code(0, 1), 0);
        due("9: THREAD 3", x.code(3, 1), UNKNOWN);
        due("9: THREAD -1", x.code(-1, 1), UNKNOWN);
        due("9: CODE 6", x.code(0, 6), UNKNOWN);
        due("9: CODE -1", x.code(0, -1), UNKNOWN);
        x.start(0);
        due("9: it goes", x.code(0, 0), STATE);
        due("9: UNKNOWN before STATE", x.code(0, 6), UNKNOWN);
        due("9: another one does not", x.code(1, 5), 0);
        x.step(0);
        due("9: by that CODE", x.thread(0, 8), 11);
        x.reset();
        x.start(0);
        x.step(0);
        due("9: reset() leaves it", x.thread(0, 8), 11);
        x.start(1);
        due("9: an empty CODE", x.step(1), 4);
        x.start(2);
        x.step(2);
        due("9: an object's THREADS by made()", x.thread(2, 8), 11);
    }

    private static void start() {
        TransactionCells x = new TransactionCells();
        x.act(0, Due.SET, 0, 10, 0);
        x.act(1, Due.SET, 0, 11, 0);
        due("10: start", x.start(2), 0);
        due("10: GOING", x.thread(2, 0), 1);
        due("10: PLACE", x.thread(2, 1), 0);
        x.step(2);
        due("10: at first CODE 0", x.thread(2, 8), 10);
        due("10: again", x.start(2), STATE);
        x.step(2);
        due("10: ENDED", x.start(2), STATE);
        due("10: THREAD 3", x.start(3), UNKNOWN);
        due("10: THREAD -1", x.start(-1), UNKNOWN);
        x.reset();
        due("10: after reset()", x.start(2), 0);
        due("10: PLACE is 0", x.thread(2, 1), 0);
        due("10: REGISTERS are 0", x.thread(2, 8), 0);
    }

    private static void reset() {
        TransactionCells x = Due.made(Due.EAGER,
            Due.code(Due.a(Due.SET, 1, 3), Due.a(Due.WRITE, 0, 1), Due.a(Due.TRY, 9), Due.a(Due.BEGIN, Due.SURE),
                Due.a(Due.READ, 2, 0), Due.a(Due.WRITE, 1, 2)),
            Due.code(Due.a(Due.BEGIN, Due.DOING), Due.a(Due.READ, 0, 0), Due.a(Due.WRITE, 2, 0)));
        x.cell(0, 1, 5);
        x.start(0);
        x.start(1);
        Due.steps("11", x, 1, 1, 1, 1);
        Due.steps("11", x, 0, 1, 1, 1, 1, 1, 1);
        due("11: SURE is under way", x.count(6), 0);
        due("11: OWNED", x.told(1, 3), 0);
        due("11: how many", x.reset(), 2);
        for (int c = 0; c < 8; c++) {
            due("11: VALUE of " + c, x.told(c, 1), c == 0 ? 3 : 0);
            due("11: VERSION of " + c, x.told(c, 2), 0);
            for (int what = 3; what < 11; what++) due("11: told(" + c + ", " + what + ")", x.told(c, what), NONE);
        }
        for (int t = 0; t < 3; t++) {
            for (int what = 0; what < 12; what++) {
                due("11: thread(" + t + ", " + what + ")", x.thread(t, what), what == 3 ? NONE : 0);
            }
        }
        int[] counts = {0, 0, 0, 3, 0, NONE, NONE, Due.EAGER};
        for (int what = 0; what < 8; what++) due("11: count(" + what + ")", x.count(what), counts[what]);
        due("11: THE ORDER", x.order(0, 0), UNKNOWN);
        due("11: check() begins with the VALUES that stay", x.check(), NONE);
        due("11: ACTS stay", x.wipe(), 9);
        due("11: none went", x.reset(), 0);
        lockIsFree();
        olderValuesAreGone();
        countsStay();
    }

    /** How many have begun EVER, and how many of these BEGAN ANEW, is not of what reset() makes as at first. */
    private static void countsStay() {
        TransactionCells x = Due.made(Due.CLOCK,
            Due.code(Due.a(Due.BEGIN, Due.DOING), Due.a(Due.READ, 0, 0), Due.a(Due.END)),
            Due.code(Due.a(Due.WRITE, 0, 0)));
        x.cell(0, 1, 5);
        x.start(0);
        x.start(1);
        Due.steps("11", x, 0, 1, 1);
        Due.steps("11", x, 1, 1);
        Due.steps("11", x, 0, 2);
        x.reset();
        due("11: begun ever stay", x.count(3), 2);
        due("11: that BEGAN ANEW stay", x.count(4), 1);
        due("11: of the THREAD none did", x.thread(0, 4), 0);
        x.start(0);
        Due.steps("11", x, 0, 1);
        due("11: begun ever go on", x.count(3), 3);
        x.keep();
        x.reset();
        x.start(1);
        Due.steps("11", x, 1, 1);
        due("11: since the object was made", x.count(3), 4);
        x.back();
        due("23: as it was kept", x.count(3), 3);
        due("1: a new object", new TransactionCells().count(3), 0);
    }

    private static void lockIsFree() {
        TransactionCells x = Due.made(Due.COARSE, Due.code(Due.a(Due.BEGIN, Due.DOING)));
        x.start(0);
        x.step(0);
        due("11: THE LOCK", x.count(5), 0);
        x.reset();
        due("11: it is free", x.count(5), NONE);
        x.start(1);
        due("11: another one takes it", x.step(1), 1);
    }

    /** VALUES from before the reset() are no pictures: with their VERSIONS they would be above no START. */
    private static void olderValuesAreGone() {
        TransactionCells x = Due.made(Due.PICTURE,
            Due.code(Due.a(Due.SET, 0, 4), Due.a(Due.WRITE, 0, 0), Due.a(Due.SET, 0, 6), Due.a(Due.WRITE, 0, 0)),
            Due.code(Due.a(Due.BEGIN, Due.READING), Due.a(Due.READ, 1, 0), Due.a(Due.READ, 2, 0)));
        x.start(0);
        x.run(0, 9);
        x.reset();
        x.start(0);
        x.start(1);
        Due.steps("11", x, 1, 1, 1);
        due("11: the VALUE that stayed", x.thread(1, 9), 6);
        Due.steps("11", x, 0, 1, 1);
        Due.steps("11", x, 1, 1);
        due("11: the picture of it", x.thread(1, 10), 6);
    }
}
