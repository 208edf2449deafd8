/** Terms 3 and promises 19 to 21: THE ORDER at the first, the 60th and one further; PICTURES in it; CHECK and forge(). */
public final class OrderEdgesTest {
    private static final int NONE = Due.NONE, UNKNOWN = Due.UNKNOWN, OUTSIDE = Due.OUTSIDE, STATE = Due.STATE;
    private static final int SET = Due.SET, ADD = Due.ADD, READ = Due.READ, WRITE = Due.WRITE, LINK = Due.LINK, VOID = Due.VOID;
    private static final int ITEM = Due.ITEM, JUMP = Due.JUMP, BEGIN = Due.BEGIN, END = Due.END, RETRY = Due.RETRY;
    private static final int EITHER = Due.EITHER, NEST = Due.NEST, TRY = Due.TRY, FAIL = Due.FAIL;
    private static final int DOING = Due.DOING, READING = Due.READING, WAITING = Due.WAITING, SURE = Due.SURE;
    private static final int CLOCK = Due.CLOCK, PICTURE = Due.PICTURE, COARSE = Due.COARSE;
    private static final int MIN = Integer.MIN_VALUE, MAX = Integer.MAX_VALUE;

    private static void due(String what, long got, long want) {
        Due.due(what, got, want);
    }

    private static int[] a(int... act) {
        return act;
    }

    public static void main(String[] args) {
        everySortCounts();
        sixtyOfEverySort();
        sixtyFirstByPicture();
        startAndMade();
        picturesOfOneStart();
        onlyReadingByPicture();
        firstReading();
        ownLogIsNotRead();
        whatStandsNoMore();
        nothingThere();
        nothingOfBefore();
        forgeEach();
        forgeBounds();
        checkFirstAndLast();
        checkLeast();
        checkReadsBeforeItWrites();
        checkBegins();
        Due.close();
    }

    private static void done(TransactionCells x, int t, int steps) {
        for (int i = 0; i < steps; i++) due("19: done", x.step(t), 1);
    }

    /** The notes of THE ORDER from 0 to 33, where nothing is: NONE for sorts, 0 else. */
    private static void isNote(String what, TransactionCells x, int i, int... told) {
        int[] want = new int[34];
        for (int c = 0; c < 8; c++) want[2 + c] = want[18 + c] = NONE;
        for (int j = 0; j < told.length; j += 2) want[told[j]] = told[j + 1];
        for (int w = 0; w < 34; w++) due(what + ": order(" + i + ", " + w + ")", x.order(i, w), want[w]);
    }

    // ---- the first 60

    /** What COUNTS: an END of each KIND, a SURE one that FAILS, a WRITING outside; not what is undone or sleeps. */
    private static void everySortCounts() {
        for (int way = 0; way < 4; way++) {
            for (int kind = 0; kind < 4; kind++) {
                TransactionCells x = Due.going(way, Due.behind(kind, a(END)), Due.behind(kind, a(FAIL, 0)));
                done(x, 0, 2);
                due("18: END of KIND " + kind, x.count(1), 1);
                due("19: THREAD", x.order(0, 0), 0);
                due("19: KIND", x.order(0, 1), kind);
                Due.steps("12", x, 1, 1, 3);
                due("18: FAILED in KIND " + kind, x.count(1), kind == SURE ? 2 : 1);
                due("19: one further", x.order(1, 1), kind == SURE ? SURE : UNKNOWN);
                due("18: begun", x.count(3), 2);
            }
            TransactionCells y = Due.going(way, Due.code(a(WRITE, 0, 0), a(LINK, 0, 0), a(VOID, 0), a(READ, 0, 1)), Due.behind(WAITING,
                a(RETRY)));
            done(y, 0, 4);
            due("18: WRITINGS outside, no READING", y.count(1), 3);
            isNote("19: NUMBER", y, 0, 18, 1, 26, 0);
            isNote("19: ROW", y, 1, 18, 2, 26, 0);
            isNote("19: NOTHING", y, 2, 18, 0);
            due("18: begun, with an AGE", y.count(3), 3);
            Due.steps("12", y, 1, 1, 5);
            due("18: ASLEEP", y.count(1), 3);
            due("18: begun", y.count(3), 4);
        }
    }

    private static void sixtyOfEverySort() {
        int[][][] codes = {
            Due.code(a(WRITE, 7, 1), a(JUMP, 0)), Due.code(a(BEGIN, DOING), a(END), a(JUMP, 0)), Due.code(a(TRY, 0), a(BEGIN, SURE),
                a(FAIL, 0)),
            Due.code(a(BEGIN, READING), a(END), a(JUMP, 0))};
        int[] steps = {2, 3, 3, 3};
        for (int way = 0; way < 4; way++) {
            for (int i = 0; i < codes.length; i++) {
                TransactionCells x = Due.going(way, codes[i]);
                if (i == 2) due("12: the SCOPE is gone", x.run(2, 3), 3);
                x.reset();
                x.start(2);
                for (int many = 0; many < 59; many++) {
                    for (int s = 0; s < steps[i]; s++) {
                        if (x.step(2) != 1) due("19: done", 0, 1);
                    }
                }
                due("18: 59", x.count(1), 59);
                due("18: 59 noted", x.count(2), 59);
                due("19: the 59th", x.order(58, 0), 2);
                due("19: no 60th", x.order(59, 0), UNKNOWN);
                due("20: no 60th", x.forge(59, 10, 0), UNKNOWN);
                due("21: 59", x.check(), NONE);
                x.run(2, steps[i]);
                due("18: 60", x.count(1), 60);
                due("18: 60 noted", x.count(2), 60);
                due("19: the 60th", x.order(59, 0), 2);
                due("19: no 61st", x.order(60, 0), UNKNOWN);
                due("20: the 60th", x.forge(59, 10, 0), 0);
                due("21: 60", x.check(), NONE);
                x.run(2, steps[i]);
                due("18: 61", x.count(1), 61);
                due("18: 60 noted", x.count(2), 60);
                due("19: the 60th", x.order(59, 0), 2);
                due("19: no 61st", x.order(60, 0), UNKNOWN);
                due("20: the 60th", x.forge(59, 10, 0), 0);
                due("20: no 61st", x.forge(60, 10, 0), UNKNOWN);
                due("21: 61", x.check(), STATE);
                x.reset();
                due("18: none", x.count(1) + x.count(2), 0);
                due("19: none", x.order(0, 0), UNKNOWN);
                due("21: none", x.check(), NONE);
            }
        }
    }

    /** A PICTURE from before all is noted ahead of 59, but not where 60 are noted already. */
    private static void sixtyFirstByPicture() {
        for (int writings = 59; writings <= 61; writings++) {
            TransactionCells x = Due.going(PICTURE, Due.behind(READING, a(READ, 0, 5), a(END)), Due.code(a(ADD, 0, 1), a(WRITE, 0, 0),
                a(JUMP, 0)),
                Due.behind(READING, a(END)));
            done(x, 0, 2);
            for (int i = 0; i < writings; i++) {
                for (int s = 0; s < 3; s++) {
                    if (x.step(1) != 1) due("19: done", 0, 1);
                }
            }
            done(x, 0, 1);
            due("18: all", x.count(1), writings + 1);
            due("18: noted", x.count(2), 60);
            due("19: the first", x.order(0, 0), writings == 59 ? 0 : 1);
            due("19: KIND of the first", x.order(0, 1), writings == 59 ? READING : DOING);
            due("19: the second", x.order(1, 0), 1);
            due("19: the 60th", x.order(59, 0), 1);
            due("19: what it wrote", x.order(59, 18), 1);
            due("19: no 61st", x.order(60, 0), UNKNOWN);
            due("21: check", x.check(), writings == 59 ? NONE : STATE);
        }
    }

    // ---- PICTURES in THE ORDER

    /** Ahead of the first that made the CLOCK more than START; one that made it START stays ahead of it. */
    private static void startAndMade() {
        for (int start = 0; start < 5; start++) {
            int[][] writer = Due.code(a(WRITE, 7, 0), a(WRITE, 7, 0), a(WRITE, 7, 0), a(WRITE, 7, 0));
            TransactionCells x = Due.going(PICTURE, Due.behind(READING, a(READ, 0, 1), a(END)), writer);
            for (int i = 0; i < start; i++) done(x, 1, 1);
            done(x, 0, 2);
            for (int i = start; i < 4; i++) done(x, 1, 1);
            done(x, 0, 1);
            for (int i = 0; i < 5; i++) due("19: START " + start + ", place " + i, x.order(i, 0), i == start ? 0 : 1);
            due("19: no more", x.order(5, 0), UNKNOWN);
            isNote("19: all of it", x, start, 0, 0, 1, READING, 3, 1, 11, 10);
            due("21: right", x.check(), NONE);
        }
        // What made no CLOCK stays where it is: the PICTURE is directly ahead of the one that did.
        TransactionCells y = Due.going(PICTURE, Due.behind(READING, a(READ, 0, 1), a(END)), Due.behind(DOING, a(END), a(BEGIN, WAITING),
            a(END), a(WRITE, 1, 0),
            a(BEGIN, SURE), a(END)), Due.code(a(SET, 0, 1)));
        done(y, 0, 2);
        done(y, 1, 7);
        done(y, 0, 1);
        int[] kinds = {DOING, WAITING, READING, DOING, SURE};
        for (int i = 0; i < 5; i++) due("19: KIND of " + i, y.order(i, 1), kinds[i]);
        due("21: right", y.check(), NONE);
    }

    /** Of one START: each directly ahead of that writer, so behind those that COUNTED before. */
    private static void picturesOfOneStart() {
        int[][] reader = Due.behind(READING, a(READ, 0, 1), a(END));
        TransactionCells x = Due.going(PICTURE, reader, Due.code(a(WRITE, 1, 0), a(WRITE, 1, 0)), reader);
        done(x, 0, 1);
        done(x, 2, 1);
        done(x, 1, 2);
        done(x, 2, 2);
        done(x, 0, 2);
        int[] threads = {2, 0, 1, 1};
        for (int i = 0; i < 4; i++) due("19: THREAD of " + i, x.order(i, 0), threads[i]);
        due("21: right", x.check(), NONE);
        // A PICTURE that BEGAN ANEW has the later START.
        TransactionCells y = Due.going(PICTURE, reader, Due.code(a(WRITE, 1, 0), a(WRITE, 1, 0), a(WRITE, 1, 0), a(WRITE, 1, 0),
            a(WRITE, 1, 0)));
        done(y, 0, 1);
        done(y, 1, 4);
        Due.steps("12: ANEW", y, 0, 2);
        done(y, 1, 1);
        done(y, 0, 2);
        due("19: START is 4", y.order(4, 0), 0);
        due("19: behind it", y.order(5, 0), 1);
        due("21: right", y.check(), NONE);
    }

    private static void onlyReadingByPicture() {
        for (int way = 0; way < 3; way++) {
            for (int kind = 0; kind < 3; kind++) {
                TransactionCells x = Due.going(way, Due.behind(kind, a(READ, 0, 1), a(END)), Due.code(a(WRITE, 2, 0)));
                done(x, 0, 2);
                done(x, 1, 1);
                done(x, 0, 1);
                due("19: way " + way + ", KIND " + kind, x.order(way == PICTURE && kind == READING ? 0 : 1, 0), 0);
                due("21: right", x.check(), NONE);
            }
        }
    }

    // ---- what is noted

    private static void firstReading() {
        TransactionCells x = Due.going(CLOCK, Due.behind(DOING, a(READ, 0, 7), a(READ, 1, 7), a(WRITE, 7, 2), a(READ, 1, 7), a(VOID, 0),
            a(LINK, 6, 5), a(END)));
        done(x, 0, 8);
        isNote("19: the first READING", x, 0, 9, 1, 17, 70, 18, 0, 24, 2, 32, 5, 25, 1, 33, 0);
        // NOTHING and ROWS are read, too, though the ACT FAILS.
        for (int way = 0; way < 4; way++) {
            for (int kind = 0; kind < 4; kind++) {
                TransactionCells y = Due.made(way, Due.behind(kind, a(TRY, 4), a(READ, 0, 3), a(SET, 0, 0), a(TRY, 7), a(READ, 0, 2),
                    a(SET, 0, 0), a(ITEM, 1, 2, 2), a(END)));
                y.cell(2, 2, 4);
                y.row(4, 3, 2);
                y.start(1);
                Due.steps("12", y, 1, 1, 1, 1, 1, 1, 1, 1, 4);
                isNote("19: way " + way + ", KIND " + kind, y, 0, 0, 1, 1, kind, 4, 2, 12, 4, 5, 0);
                due("21: right", y.check(), NONE);
            }
        }
    }

    private static void ownLogIsNotRead() {
        for (int way = 0; way < 4; way++) {
            for (int kind : new int[] {DOING, WAITING, SURE}) {
                TransactionCells x = Due.going(way, Due.behind(kind, a(SET, 0, 5), a(WRITE, 4, 0), a(READ, 1, 4), a(END)));
                done(x, 0, 5);
                due("12: from the LOG", x.thread(0, 9), 5);
                isNote("19: not from the LOG, way " + way, x, 0, 1, kind, 22, 1, 30, 5);
                due("21: right", x.check(), NONE);
            }
        }
    }

    /** Of one that BEGAN ANEW, of a NEST and of an EITHER only what stands; READS of these stay. */
    private static void whatStandsNoMore() {
        TransactionCells x = Due.going(CLOCK, Due.behind(DOING, a(READ, 0, 1), a(WRITE, 3, 0), a(Due.IF_NONE, 0, 5), a(READ, 2, 2),
            a(END)), Due.code(a(WRITE, 1, 0)));
        done(x, 0, 4);
        done(x, 1, 1);
        Due.steps("12: ANEW", x, 0, 1, 2);
        done(x, 0, 4);
        isNote("19: behind ANEW", x, 1, 3, 1, 11, 0, 21, 1, 29, 0);
        TransactionCells y = Due.going(CLOCK, Due.behind(DOING, a(NEST, 6), a(READ, 1, 1), a(WRITE, 2, 1), a(WRITE, 3, 1), a(FAIL, 0),
            a(READ, 1, 2), a(VOID, 3), a(END)));
        done(y, 0, 9);
        isNote("19: behind a NEST", y, 0, 3, 1, 11, 10, 4, 1, 12, 20, 21, 0);
        due("21: right", y.check(), NONE);
        TransactionCells z = Due.going(CLOCK, Due.behind(WAITING, a(WRITE, 4, 2), a(EITHER, 6), a(READ, 1, 1), a(VOID, 4), a(RETRY),
            a(READ, 1, 5), a(END)));
        done(z, 0, 8);
        isNote("19: behind an EITHER", z, 0, 1, WAITING, 3, 1, 11, 10, 7, 1, 15, 50, 22, 1, 30, 0);
        due("21: right", z.check(), NONE);
    }

    private static void nothingThere() {
        for (int way = 0; way < 4; way++) {
            TransactionCells x = Due.going(way, Due.behind(READING, a(END)));
            done(x, 2, 2);
            isNote("19: nothing was read or written", x, 0, 0, 2, 1, READING);
        }
    }

    /** What was noted before reset() leaves nothing to what is noted at the same place. */
    private static void nothingOfBefore() {
        for (int kind = 0; kind < 4; kind++) {
            int[][] all = new int[18][];
            all[0] = a(BEGIN, SURE);
            for (int c = 0; c < 8; c++) all[1 + c] = a(READ, 0, c);
            for (int c = 0; c < 8; c++) all[9 + c] = a(WRITE, c, 0);
            all[17] = a(END);
            for (int[][] then : new int[][][] {Due.code(a(LINK, 5, 4)), Due.behind(kind, a(END))}) {
                TransactionCells x = Due.going(CLOCK, all, then);
                done(x, 0, 18);
                due("18: one", x.count(2), 1);
                x.reset();
                x.start(1);
                done(x, 1, then.length);
                if (then.length == 1) isNote("19: a WRITING", x, 0, 0, 1, 23, 2, 31, 4);
                else isNote("19: KIND " + kind, x, 0, 0, 1, 1, kind);
                due("21: right", x.check(), NONE);
            }
        }
    }

    // ---- forge()

    private static TransactionCells sixty() {
        TransactionCells x = Due.made(CLOCK, Due.code(a(WRITE, 3, 0), a(JUMP, 0)));
        x.start(0);
        x.run(0, 119);
        return x;
    }

    /** Every what of the first and the last one, at the least and the greatest v. */
    private static void forgeEach() {
        for (int i : new int[] {0, 59}) {
            TransactionCells x = sixty();
            due("18: 60", x.count(1), 60);
            for (int what = 2; what < 34; what++) {
                boolean isSort = what < 10 || what >= 18 && what < 26;
                int was = what == 21 ? 1 : isSort ? NONE : 0;
                for (int v : isSort ? new int[] {2, 1, 0, -1} : new int[] {MIN, MAX, 3, -2}) {
                    due("20: " + v + " to " + what, x.forge(i, what, v), was);
                    due("19: " + what, x.order(i, what), v);
                    was = v;
                }
            }
            due("19: THREAD stays", x.order(i, 0), 0);
            due("19: KIND stays", x.order(i, 1), DOING);
            for (int what : new int[] {2, 9, 10, 17, 18, 25, 26, 33}) {
                due("19: another one stays", x.order(59 - i, what), what < 10 || what >= 18 && what < 26 ? NONE : 0);
                due("19: the one beside stays", x.order(i == 0 ? 1 : 58, what), what < 10 || what >= 18 && what < 26 ? NONE : 0);
            }
        }
    }

    private static void forgeBounds() {
        TransactionCells x = sixty();
        for (int what : new int[] {2, 9, 18, 25}) {
            due("20: NONE is a sort", x.forge(0, what, -1), NONE);
            due("20: -2 is none", x.forge(0, what, -2), OUTSIDE);
            due("20: 2 is a sort", x.forge(0, what, 2), NONE);
            due("20: 3 is none", x.forge(0, what, 3), OUTSIDE);
            due("19: 2", x.order(0, what), 2);
        }
        for (int what : new int[] {10, 17, 26, 33}) {
            due("20: any number", x.forge(0, what, -2), 0);
            due("20: any number", x.forge(0, what, 3), -2);
        }
        due("20: what 1", x.forge(0, 1, 0), OUTSIDE);
        due("20: what 34", x.forge(0, 34, 0), OUTSIDE);
    }

    // ---- CHECK

    private static void checkFirstAndLast() {
        for (int i : new int[] {0, 1, 58, 59}) {
            for (int c : new int[] {0, 3, 7}) {
                TransactionCells x = sixty();
                due("21: right", x.check(), NONE);
                x.forge(i, 2 + c, 2);
                due("21: 8 times the place, and the CELL", x.check(), 8 * i + c);
                x.forge(i, 2 + c, NONE);
                due("21: right", x.check(), NONE);
                x.forge(i, 18 + c, 2);
                // CELL 3 gets its VALUE anew from each one behind.
                due("21: 480 and the CELL", x.check(), c == 3 && i < 59 ? NONE : 480 + c);
            }
        }
        TransactionCells y = sixty();
        y.forge(59, 2 + 7, 1);
        due("21: the greatest of a READING", y.check(), 479);
        y.forge(59, 2 + 7, 0);
        due("21: NOTHING was read, and is there", y.check(), NONE);
        y.forge(59, 18 + 7, 1);
        due("21: the greatest of all", y.check(), 487);
        y.forge(59, 18 + 7, 0);
        due("21: NOTHING was written, and is there", y.check(), NONE);
        y.step(0);
        y.step(0);
        due("21: 61", y.check(), STATE);
        y.forge(0, 2, 1);
        due("21: 61, and another VALUE was read", y.check(), STATE);
    }

    private static void checkLeast() {
        TransactionCells x = sixty();
        x.forge(40, 2 + 6, 1);
        due("21", x.check(), 8 * 40 + 6);
        x.forge(40, 2 + 5, 1);
        due("21: the least CELL of these", x.check(), 8 * 40 + 5);
        x.forge(39, 2 + 7, 1);
        due("21: the first TRANSACTION", x.check(), 8 * 39 + 7);
        x.forge(0, 2 + 7, 1);
        due("21: the very first", x.check(), 7);
        x.forge(0, 2, 1);
        due("21: the least of all", x.check(), 0);
        x.forge(59, 18 + 1, 1);
        due("21: what was read goes ahead of the end", x.check(), 0);
        for (int[] f : new int[][] {{0, 2}, {0, 9}, {39, 9}, {40, 7}, {40, 8}}) x.forge(f[0], f[1], NONE);
        due("21: at the end", x.check(), 481);
        x.forge(30, 18 + 2, 1);
        due("21: the least CELL at the end", x.check(), 481);
        x.forge(30, 18, 1);
        due("21: the least CELL at the end", x.check(), 480);
        // Another number of the same sort.
        TransactionCells y = Due.going(CLOCK, Due.behind(DOING, a(READ, 0, 1), a(WRITE, 2, 0), a(END)));
        done(y, 0, 4);
        y.forge(0, 10 + 1, 11);
        due("21: another NUMBER was read", y.check(), 1);
        y.forge(0, 10 + 1, 10);
        due("21: right", y.check(), NONE);
        y.forge(0, 26 + 2, 11);
        due("21: another NUMBER was written", y.check(), 482);
        y.forge(0, 26 + 2, 10);
        y.forge(0, 2 + 1, 2);
        due("21: a ROW of that number was read", y.check(), 1);
    }

    /** Each VALUE read has to be that of before it; what it wrote is for those behind it. */
    private static void checkReadsBeforeItWrites() {
        int[][] code = Due.behind(DOING, a(READ, 0, 1), a(SET, 1, 1), a(ADD, 0, 1), a(WRITE, 1, 0), a(END));
        for (int way = 0; way < 4; way++) {
            TransactionCells x = Due.going(way, code);
            for (int t = 2; t >= 0; t--) done(x, t, 6);
            due("21: right", x.check(), NONE);
            due("17: all", x.told(1, 1), 13);
            for (int i = 0; i < 3; i++) {
                due("19: it read", x.order(i, 11), 10 + i);
                due("19: it wrote", x.order(i, 27), 11 + i);
                x.forge(i, 11, 11 + i);
                due("21: not what it wrote itself", x.check(), 8 * i + 1);
                x.forge(i, 11, 10 + i);
                x.forge(i, 27, 10 + i);
                due("21: the one behind, or the end", x.check(), i == 2 ? 481 : 8 * (i + 1) + 1);
                x.forge(i, 27, 11 + i);
            }
            due("21: right", x.check(), NONE);
        }
    }

    private static void checkBegins() {
        TransactionCells x = Due.made(COARSE, Due.behind(DOING, a(READ, 0, 0), a(VOID, 0), a(LINK, 1, 5), a(END)));
        due("21: a new object", x.check(), NONE);
        x.cell(0, 1, 5);
        due("21: nothing COUNTED", x.check(), NONE);
        x.start(0);
        done(x, 0, 3);
        due("21: on the way, nothing is written", x.check(), NONE);
        done(x, 0, 2);
        due("21: from the latest cell()", x.check(), NONE);
        x.forge(0, 10, 6);
        due("21: forged", x.check(), 0);
        x.keep();
        x.reset();
        due("21: from the latest reset()", x.check(), NONE);
        due("17: NOTHING", x.told(0, 0), 0);
        x.start(0);
        Due.steps("12: NULL", x, 0, 1, 3);
        due("21: right", x.check(), NONE);
        x.back();
        due("23: as it was kept, forged", x.check(), 0);
        x.forge(0, 10, 5);
        due("21: from the cell() of then", x.check(), NONE);
    }
}
