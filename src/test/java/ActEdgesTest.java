/** Terms 1: where CELLS, ROWS, CODES and PLACES begin and end, and what ACTS do with the least and greatest numbers. */
public final class ActEdgesTest {
    private static final int SET = Due.SET, ADD = Due.ADD, LESS = Due.LESS, PART = Due.PART, READ = Due.READ;
    private static final int WRITE = Due.WRITE, LINK = Due.LINK, VOID = Due.VOID, ITEM = Due.ITEM, JUMP = Due.JUMP;
    private static final int IF_NONE = Due.IF_NONE, BEGIN = Due.BEGIN, RETRY = Due.RETRY, EITHER = Due.EITHER, OR = Due.OR;
    private static final int NEST = Due.NEST, TRY = Due.TRY, FAIL = Due.FAIL, BELOW = Due.BELOW;
    private static final int NULL = 1, INDEX = 2, CAST = 3, ZERO = 4;
    private static final int MIN = Integer.MIN_VALUE, MAX = Integer.MAX_VALUE;

    private static void due(String what, long got, long want) {
        Due.due(what, got, want);
    }

    private static int[] a(int... act) {
        return act;
    }

    public static void main(String[] args) {
        everyName();
        wraps();
        parts();
        belows();
        nones();
        fails();
        reads();
        writes();
        rowsOfSizes();
        itemsOfLanes();
        itemRefusedFirst();
        rowsChangeMeanwhile();
        fullCodes();
        lastPlaces();
        Due.close();
    }

    // ---- REGISTERS 0 to 3, CELLS 0 to 7, ROWS 0 to 5, THREADS 0 to 2, CODES 0 to 5

    /** Each has a room of its own: none of them is another one's. */
    private static void everyName() {
        for (int t = 0; t < 3; t++) {
            TransactionCells x = Due.made(Due.CLOCK, Due.code());
            for (int code = 0; code < 6; code++) {
                for (int r = 0; r < 4; r++) x.act(code, SET, r, 10 * code + r + 1, 0);
            }
            for (int code = 0; code < 6; code++) {
                x.code(t, code);
                x.start(t);
                due("1: CODE " + code + " of THREAD " + t, x.run(t, 4), 4);
                for (int u = 0; u < 3; u++) {
                    for (int r = 0; r < 4; r++) {
                        due("1: REGISTER " + r + " of THREAD " + u, x.thread(u, 8 + r), u == t ? 10 * code + r + 1 : 0);
                    }
                }
                x.reset();
            }
        }
        TransactionCells x = new TransactionCells();
        for (int c = 0; c < 8; c++) x.cell(c, 1, 50 + c);
        for (int c = 0; c < 8; c++) due("1: CELL " + c, x.told(c, 1), 50 + c);
        for (int k = 0; k < 6; k++) {
            x.row(k, 3, 16);
            for (int i = 0; i < 16; i++) x.item(k, i, 100 * k + i);
        }
        for (int r = 0; r < 4; r++) x.act(0, SET, r, 4 * r + 3, 0);
        for (int r = 0; r < 4; r++) x.act(0, ITEM, r, 7, r);
        for (int k = 0; k < 6; k++) {
            x.cell(7, 2, k);
            x.start(0);
            x.run(0, 9);
            for (int r = 0; r < 4; r++) due("1: ITEM " + (4 * r + 3) + " of ROW " + k, x.thread(0, 8 + r), 100 * k + 4 * r + 3);
            x.reset();
        }
    }

    // ---- numbers

    /** One ACT of r[1] and r[2], which have these numbers: what stands in r[1]; no other REGISTER is changed. */
    private static void makes(String what, int kind, int one, int two, int want) {
        TransactionCells x = Due.made(Due.CLOCK, Due.code(a(SET, 1, one), a(SET, 2, two), a(SET, 3, 77), a(kind, 1, 2)));
        x.start(0);
        Due.steps(what, x, 0, 1, 1, 1, 1, 4);
        due(what, x.thread(0, 9), want);
        due(what + ": r[0]", x.thread(0, 8), 0);
        due(what + ": r[2]", x.thread(0, 10), two);
        due(what + ": r[3]", x.thread(0, 11), 77);
    }

    /** One ACT of r[1] alone. */
    private static void makesOfItself(String what, int kind, int one, int want) {
        TransactionCells x = Due.made(Due.CLOCK, Due.code(a(SET, 1, one), a(kind, 1, 1)));
        x.start(0);
        Due.steps(what, x, 0, 1, 1, 4);
        due(what, x.thread(0, 9), want);
    }

    private static void wraps() {
        makes("1: the greatest sum", ADD, MAX - 1, 1, MAX);
        makes("1: ADD wraps above", ADD, MAX, 1, MIN);
        makes("1: the least sum", ADD, MIN + 1, -1, MIN);
        makes("1: ADD wraps below", ADD, MIN, -1, MAX);
        makes("1: ADD wraps far", ADD, MIN, MIN, 0);
        makes("1: ADD wraps far", ADD, MAX, MAX, -2);
        makesOfItself("1: ADD of itself wraps", ADD, 1 << 30, MIN);
        makes("1: the least", LESS, MIN + 1, 1, MIN);
        makes("1: LESS wraps below", LESS, MIN, 1, MAX);
        makes("1: the greatest", LESS, MAX - 1, -1, MAX);
        makes("1: LESS wraps above", LESS, MAX, -1, MIN);
        makes("1: 0 less the least wraps", LESS, 0, MIN, MIN);
        makes("1: 0 less the greatest", LESS, 0, MAX, -MAX);
        makesOfItself("1: LESS of itself", LESS, MIN, 0);
        makes("1: SET is any int, not changed by 0", ADD, MIN, 0, MIN);
        makes("1: SET is any int, not changed by 0", LESS, MAX, 0, MAX);
    }

    private static void parts() {
        int[][] cases = {
            {7, 2, 3}, {-7, 2, -3}, {7, -2, -3}, {-7, -2, 3}, {1, 2, 0}, {-1, 2, 0}, {0, 5, 0}, {6, 3, 2}, {MAX, 1, MAX},
            {MIN, 1, MIN}, {MIN, -1, MIN}, {MAX, -1, -MAX}, {MIN, MAX, -1}, {MAX, MIN, 0}, {MIN, 2, -(1 << 30)}};
        for (int[] c : cases) makes("1: PART " + c[0] + " by " + c[1], PART, c[0], c[1], c[2]);
        makesOfItself("1: PART of itself", PART, MIN, 1);
        for (int one : new int[] {0, 1, MIN, MAX}) {
            TransactionCells x = Due.made(Due.CLOCK, Due.code(a(SET, 1, one), a(PART, 1, 2)));
            x.start(0);
            Due.steps("1: " + one + " by 0", x, 0, 1, 3, Due.STATE);
            due("1: ZERO", x.thread(0, 2), ZERO);
            due("1: nothing is done", x.thread(0, 9), one);
        }
        TransactionCells x = Due.made(Due.CLOCK, Due.code(a(SET, 1, 9), a(TRY, 4), a(PART, 1, 1), a(PART, 1, 0)));
        x.start(0);
        Due.steps("1: caught", x, 0, 1, 1, 1, 1, 4);
        due("1: ZERO is caught", x.thread(0, 8), ZERO);
        due("1: by 1 it is done before", x.thread(0, 9), 1);
    }

    private static void belows() {
        int[][] cases = {
            {3, 4, 1}, {4, 4, 0}, {5, 4, 0}, {-1, 0, 1}, {0, 0, 0}, {0, -1, 0}, {MIN, MAX, 1}, {MAX, MIN, 0}, {MIN, MIN + 1, 1},
            {MIN, MIN, 0}, {MAX - 1, MAX, 1}, {MAX, MAX, 0}};
        for (int[] c : cases) makes("1: " + c[0] + " BELOW " + c[1], BELOW, c[0], c[1], c[2]);
        makesOfItself("1: BELOW itself", BELOW, 5, 0);
    }

    private static void nones() {
        for (int v : new int[] {0, 1, -1, MIN, MAX, 1 << 16}) {
            TransactionCells x = Due.made(Due.CLOCK, Due.code(a(SET, 3, v), a(IF_NONE, 3, 30)));
            x.start(0);
            Due.steps("1: NONE", x, 0, 1, 1);
            due("1: to PLACE b, if r[a] is 0: " + v, x.thread(0, 1), v == 0 ? 30 : 2);
            due("1: r[a] stays", x.thread(0, 11), v);
        }
    }

    private static void fails() {
        int[][] cases = {
            {0, 10}, {1, 11}, {2, 12}, {3, 13}, {4, 14}, {5, 15}, {6, 16}, {7, 17}, {8, 10}, {9, 11}, {15, 17}, {16, 10}, {-1, 17},
            {-7, 11}, {-8, 10}, {-9, 17}, {MIN, 10}, {MAX, 17}};
        for (int[] c : cases) {
            TransactionCells x = Due.made(Due.CLOCK, Due.code(a(SET, 3, c[0]), a(FAIL, 3)));
            x.start(0);
            Due.steps("1: FAIL", x, 0, 1, 3);
            due("1: the lowest three bits of " + c[0], x.thread(0, 2), c[1]);
            due("1: r[a] stays", x.thread(0, 11), c[0]);
        }
    }

    // ---- CELLS

    private static void reads() {
        for (int c = 0; c < 8; c++) {
            for (int v : new int[] {0, -1, MIN, MAX}) {
                TransactionCells x = Due.made(Due.CLOCK, Due.code(a(READ, 3, c)));
                x.cell(c, 1, v);
                x.start(0);
                Due.steps("1: READ of CELL " + c, x, 0, 1, 4);
                due("1: the NUMBER of CELL " + c, x.thread(0, 11), v);
            }
            failsToRead(c, 0, 0, NULL);
            failsToRead(c, 2, 0, CAST);
            failsToRead(c, 2, 5, CAST);
        }
    }

    private static void failsToRead(int c, int sort, int v, int want) {
        TransactionCells x = Due.made(Due.CLOCK, Due.code(a(SET, 2, 9), a(READ, 2, c)));
        x.cell(c, sort, v);
        x.row(0, 3, 1);
        x.start(0);
        Due.steps("1: READ of sort " + sort, x, 0, 1, 3);
        due("1: READ of sort " + sort, x.thread(0, 2), want);
        due("1: nothing is done", x.thread(0, 10), 9);
    }

    private static void writes() {
        for (int c = 0; c < 8; c++) {
            TransactionCells x = Due.made(Due.CLOCK, Due.code(a(SET, 3, MIN), a(WRITE, c, 3), a(LINK, c, 5), a(VOID, c)));
            for (int other = 0; other < 8; other++) x.cell(other, 1, 40 + other);
            x.start(0);
            int[][] want = {{1, MIN}, {2, 5}, {0, 0}};
            x.step(0);
            for (int i = 0; i < 3; i++) {
                due("1: done", x.step(0), 1);
                due("1: sort of CELL " + c, x.told(c, 0), want[i][0]);
                due("1: what it is", x.told(c, 1), want[i][1]);
                due("1: VERSION", x.told(c, 2), i + 1);
                for (int other = 0; other < 8; other++) {
                    if (other != c) due("1: CELL " + other + " stays", x.told(other, 1) + x.told(other, 2), 40 + other);
                }
            }
        }
    }

    // ---- ROWS

    /** ITEM i of ROW 5, which has n ITEMS, each of them i + 1: the number, or the FAILURE less 1000. */
    private static int item(int n, int i) {
        TransactionCells x = Due.made(Due.CLOCK, Due.code(a(SET, 2, i), a(ITEM, 1, 0, 2)));
        x.row(5, 3, n);
        for (int j = 0; j < n; j++) x.item(5, j, j + 1);
        x.cell(0, 2, 5);
        x.start(0);
        x.run(0, 9);
        due("1: the index stays", x.thread(0, 10), i);
        if (x.thread(0, 0) == 3) due("1: nothing is done", x.thread(0, 9), 0);
        return x.thread(0, 0) == 3 ? x.thread(0, 2) - 1000 : x.thread(0, 9);
    }

    private static void rowsOfSizes() {
        for (int n : new int[] {0, 1, 2, 15, 16}) {
            for (int i : new int[] {-1, 0, 1, 2, 14, 15, 16, MIN, MAX}) {
                boolean is = i >= 0 && i < n;
                due("1: ITEM " + i + " of " + n, item(n, i), is ? i + 1 : INDEX - 1000);
            }
            TransactionCells x = new TransactionCells();
            due("4: n " + n, x.row(0, 4, n), 0);
            for (int i = -1; i < 18; i++) due("5: ITEM " + i + " of " + n, x.item(0, i, 1), i >= 0 && i < n ? 0 : Due.OUTSIDE);
        }
    }

    private static long ofLane(int lane, long v) {
        return switch (lane) {
            case 0 -> v % 2 == 0 ? 0 : 1;
            case 1 -> (byte) v;
            case 2 -> (short) v;
            default -> (int) v;
        };
    }

    /** The last number that each LANE has, and one further; truth: odd. From long, ITEM casts to int. */
    private static void itemsOfLanes() {
        long[] given = {
            0, 1, -1, 2, -2, 127, 128, -128, -129, 255, 256, 32767, 32768, -32768, -32769, 65535, 65536, MAX, MAX + 1L, MIN, MIN - 1L,
            0xFFFFFFFFL, 0x100000000L, Long.MAX_VALUE, Long.MIN_VALUE, Long.MAX_VALUE - 1};
        for (int lane = 0; lane < 5; lane++) {
            TransactionCells x = Due.made(Due.CLOCK, Due.code(a(SET, 0, 15), a(ITEM, 1, 7, 0)));
            due("4: LANE " + lane, x.row(0, lane, 16), 0);
            x.cell(7, 2, 0);
            for (long v : given) {
                due("5: taken", x.item(0, 15, v), 0);
                x.start(0);
                x.run(0, 2);
                due("5: LANE " + lane + " of " + v, x.thread(0, 9), ofLane(lane, v));
                x.reset();
            }
            due("4: anew", x.row(0, lane, 16), 0);
            x.start(0);
            x.run(0, 2);
            due("4: 0 at first", x.thread(0, 9), 0);
        }
    }

    private static int failureOfItem(int sort, int v, boolean isLaid, int i) {
        TransactionCells x = Due.made(Due.CLOCK, Due.code(a(SET, 2, i), a(ITEM, 1, 3, 2)));
        x.cell(3, sort, v);
        // NOTHING is no ROW 0, though its number is told as 0.
        x.row(0, 3, 4);
        if (isLaid) x.row(2, 3, 4);
        x.start(0);
        x.run(0, 9);
        return x.thread(0, 2);
    }

    /** Of two FAILURES of one ITEM the first: what the CELL is, then that the ROW is MISSING, then INDEX. */
    private static void itemRefusedFirst() {
        for (int i : new int[] {-1, 0, 3, 4, 16}) {
            due("1: NOTHING", failureOfItem(0, 0, true, i), NULL);
            due("1: a NUMBER that is no ROW", failureOfItem(1, 99, true, i), CAST);
            due("1: a NUMBER", failureOfItem(1, 2, true, i), CAST);
            due("1: a NUMBER, the ROW is MISSING", failureOfItem(1, 2, false, i), CAST);
            due("1: MISSING", failureOfItem(2, 2, false, i), NULL);
            due("1: another ROW is MISSING", failureOfItem(2, 3, true, i), NULL);
            due("1: INDEX", failureOfItem(2, 2, true, i), i >= 0 && i < 4 ? 0 : INDEX);
        }
    }

    private static void rowsChangeMeanwhile() {
        TransactionCells x = Due.made(Due.CLOCK, Due.code(a(TRY, 2), a(ITEM, 1, 0, 0), a(TRY, 4), a(ITEM, 2, 0, 0), a(ITEM, 3, 0, 1)));
        x.cell(0, 2, 4);
        x.start(0);
        Due.steps("1: at first MISSING", x, 0, 1, 1);
        due("1: NULL", x.thread(0, 8), NULL);
        due("4: laid, as a THREAD goes", x.row(4, 3, 1), 0);
        Due.steps("1: INDEX 1 of one", x, 0, 1, 1);
        due("1: INDEX", x.thread(0, 8), INDEX);
        due("6: TORN, as a THREAD goes", x.tear(4), 1);
        Due.steps("1: MISSING when TORN", x, 0, 3);
        due("1: NULL", x.thread(0, 2), NULL);
        due("6: so already", x.tear(4), 0);
        due("5: MISSING", x.item(4, 0, 1), Due.STATE);
        due("4: of none", x.row(4, 0, 0), 0);
        due("6: one of none is there", x.tear(4), 1);
    }

    // ---- CODES and PLACES

    /** At most 40 ACTS each, numbered from 0; of no CODE is one done as an ACT of another. */
    private static void fullCodes() {
        TransactionCells x = new TransactionCells();
        for (int code = 0; code < 6; code++) {
            for (int place = 0; place < 40; place++) {
                due("2: PLACE", x.act(code, SET, place % 4, 100 * code + place, 0), place);
            }
            due("2: FULL", x.act(code, SET, 0, -1, 0), Due.FULL);
        }
        for (int code = 0; code < 6; code++) {
            x.code(1, code);
            x.start(1);
            due("12: PLACES 0 and 1", x.run(1, 2), 2);
            due("12: of CODE " + code, x.thread(1, 8), 100 * code);
            due("12: the first 39", x.run(1, 37), 37);
            due("12: PLACE 39 is not done yet", x.thread(1, 11), 100 * code + 35);
            due("12: the 40th", x.step(1), 1);
            due("12: PLACE 39", x.thread(1, 11), 100 * code + 39);
            due("12: the CODE's end", x.thread(1, 1), 40);
            due("12: ENDED", x.step(1), 4);
            x.reset();
        }
        due("3: all that they had", x.wipe(), 240);
        due("3: none", x.wipe(), 0);
    }

    /** PLACE 40 can be named by each ACT that names one, though no ACT stands there. */
    private static void lastPlaces() {
        goesTo40("JUMP", 4, Due.code(a(JUMP, 40)), 1);
        goesTo40("NONE", 4, Due.code(a(IF_NONE, 0, 40)), 1);
        goesTo40("TRY", 4, Due.code(a(TRY, 40), a(FAIL, 0)), 2);
        goesTo40("NEST", 3, Due.code(a(BEGIN, Due.DOING), a(NEST, 40), a(FAIL, 0)), 3);
        goesTo40("EITHER", 3, Due.code(a(BEGIN, Due.WAITING), a(EITHER, 40), a(RETRY)), 3);
        goesTo40("OR", 3, Due.code(a(BEGIN, Due.WAITING), a(EITHER, 9), a(OR, 40)), 3);
        TransactionCells x = Due.made(Due.CLOCK, Due.code(a(SET, 0, 1), a(JUMP, 0)));
        x.start(0);
        Due.steps("2: PLACE 0 is named", x, 0, 1, 1);
        due("12: PLACE 0", x.thread(0, 1), 0);
    }

    private static void goesTo40(String what, int last, int[][] code, int steps) {
        TransactionCells x = Due.made(Due.CLOCK, code);
        x.start(0);
        for (int i = 0; i < steps; i++) due("12: " + what, x.step(0), 1);
        due("12: PLACE 40 by " + what, x.thread(0, 1), 40);
        due("12: no ACT is there, " + what, x.step(0), last);
        due("12: INDEX in a TRANSACTION only, " + what, x.thread(0, 2), last == 3 ? INDEX : 0);
    }
}
