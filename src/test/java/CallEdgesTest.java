import java.util.HashSet;
import java.util.Set;

/**
 * Promises 1 to 18 and 22 to 24 at their bounds: the last number that is taken, how far run() and explore() go,
 * what each what tells. What is refused stands in RefusalsTest, THE ORDER in OrderEdgesTest.
 */
public final class CallEdgesTest {
    private static final int NONE = Due.NONE, UNKNOWN = Due.UNKNOWN, STATE = Due.STATE;
    private static final int SET = Due.SET, ADD = Due.ADD, READ = Due.READ, WRITE = Due.WRITE, LINK = Due.LINK, VOID = Due.VOID;
    private static final int JUMP = Due.JUMP, BEGIN = Due.BEGIN, END = Due.END, RETRY = Due.RETRY;
    private static final int NEST = Due.NEST, JOIN = Due.JOIN, TRY = Due.TRY, DONE = Due.DONE, FAIL = Due.FAIL;
    private static final int DOING = Due.DOING, WAITING = Due.WAITING, SURE = Due.SURE;
    private static final int CLOCK = Due.CLOCK, EAGER = Due.EAGER, PICTURE = Due.PICTURE, COARSE = Due.COARSE;
    private static final int MIN = Integer.MIN_VALUE, MAX = Integer.MAX_VALUE;

    private static void due(String what, long got, long want) {
        Due.due(what, got, want);
    }

    private static int[] a(int... act) {
        return act;
    }

    public static void main(String[] args) {
        newObject();
        wayAndCode();
        cells();
        tears();
        startAndReset();
        runAtMost();
        runAlone();
        runTillThree();
        runInTurn();
        exploreAtMost();
        exploreCosts();
        exploreRefusedCostsNothing();
        exploreLeavesTheHouse();
        exploreEnds();
        exploreOlderValues();
        exploreScopes();
        exploreElder();
        exploreStandings();
        endTells();
        threadTells();
        toldTells();
        countTells();
        keepInPlace();
        keepNotExplored();
        digestWraps();
        Due.close();
    }

    // ---- promises 1 to 11

    private static void newObject() {
        TransactionCells x = new TransactionCells();
        long h = 41;
        for (int i = 0; i < 8 * 14; i++) h = 31 * h + (i % 14 >= 3 && i % 14 <= 10 ? NONE : 0);
        for (int i = 0; i < 3 * 12; i++) h = 31 * h + (i % 12 == 3 ? NONE : 0);
        for (int i = 0; i < 8; i++) h = 31 * h + (i == 5 || i == 6 ? NONE : 0);
        due("1: all at first", x.digest(), h);
        due("1: RESET", x.reset(), 0);
        due("1: as at first", x.digest(), h);
        due("1: no CODE", x.wipe(), 0);
        due("1: WAY CLOCK", x.way(3), CLOCK);
        for (int t = 0; t < 3; t++) due("10: START", x.start(t), 0);
        for (int t = 0; t < 3; t++) due("1: no ACT is there", x.step(t), 4);
    }

    private static void wayAndCode() {
        TransactionCells x = new TransactionCells();
        int was = CLOCK;
        for (int w : new int[] {0, 3, 3, 2, 1, 0}) {
            due("8: what it was", x.way(w), was);
            due("18: what it is", x.count(7), w);
            was = w;
        }
        for (int code = 0; code < 6; code++) x.act(code, SET, 0, 70 + code, 0);
        for (int t = 0; t < 3; t++) {
            for (int code = 5; code >= 0; code--) {
                due("9: CODE " + code, x.code(t, code), 0);
                x.start(t);
                x.step(t);
                due("9: of THREAD " + t, x.thread(t, 8), 70 + code);
                x.reset();
            }
        }
    }

    private static void cells() {
        TransactionCells x = new TransactionCells();
        for (int c : new int[] {0, 7}) {
            for (int v : new int[] {MIN, -1, 0, 6, MAX}) {
                due("7: NUMBER", x.cell(c, 1, v), 0);
                due("7: sort", x.told(c, 0), 1);
                due("7: " + v, x.told(c, 1), v);
                due("7: NOTHING, v is not looked at", x.cell(c, 0, v), 0);
                due("7: sort", x.told(c, 0), 0);
                due("7: NOTHING", x.told(c, 1), 0);
            }
            for (int v : new int[] {0, 5}) {
                due("7: ROW", x.cell(c, 2, v), 0);
                due("7: sort", x.told(c, 0), 2);
                due("7: ROW " + v, x.told(c, 1), v);
            }
            due("7: VERSION stays", x.told(c, 2), 0);
            due("7: no TRANSACTION", x.count(0) + x.count(1) + x.count(3), 0);
        }
    }

    private static void tears() {
        TransactionCells x = new TransactionCells();
        for (int k : new int[] {0, 5}) {
            due("6: MISSING", x.tear(k), 0);
            due("4: of none", x.row(k, 0, 0), 0);
            due("6: TORN", x.tear(k), 1);
            due("6: MISSING", x.tear(k), 0);
            due("5: MISSING", x.item(k, 0, 1), STATE);
            due("4: LANE 4, 16 ITEMS", x.row(k, 4, 16), 0);
            due("5: ITEM 15", x.item(k, 15, Long.MIN_VALUE), 0);
            due("6: TORN", x.tear(k), 1);
        }
        for (int k = 1; k < 5; k++) due("6: the others are MISSING", x.tear(k), 0);
    }

    private static void startAndReset() {
        for (int threads = 0; threads < 8; threads++) {
            TransactionCells x = Due.made(CLOCK, Due.code(a(SET, 3, 8), a(WRITE, 0, 3), a(FAIL, 0)));
            int many = 0;
            for (int t = 0; t < 3; t++) {
                if ((threads >> t & 1) == 0) continue;
                due("10: START of " + t, x.start(t), 0);
                due("10: again", x.start(t), STATE);
                many++;
                x.run(t, many);
            }
            due("11: how many were not in state 0", x.reset(), many);
            due("11: none is any more", x.reset(), 0);
            for (int t = 0; t < 3; t++) {
                for (int what = 0; what < 12; what++) due("11: thread " + what, x.thread(t, what), what == 3 ? NONE : 0);
            }
            due("11: VALUES stay", x.told(0, 1), many > 1 ? 8 : 0);
            due("11: VERSIONS do not", x.told(0, 2), 0);
            due("11: CLOCK", x.count(0), 0);
            due("11: THE ORDER", x.count(1) + x.count(2), 0);
        }
    }

    // ---- run()

    private static void runAtMost() {
        TransactionCells x = Due.made(CLOCK, Due.code(a(JUMP, 0)));
        for (int t = 0; t < 3; t++) x.start(t);
        int all = 0;
        for (int n : new int[] {0, 1, 2, 199, 200}) {
            due("13: n " + n, x.run(0, n), n);
            all += n;
            due("16: STEPS", x.thread(0, 5) + x.thread(1, 5) + x.thread(2, 5), all);
        }
        due("13: 201", x.run(0, 201), Due.OUTSIDE);
        due("16: STEPS", x.thread(0, 5) + x.thread(1, 5) + x.thread(2, 5), all);
        // Those that WAIT are of the n, too.
        TransactionCells y = Due.made(COARSE, Due.code(a(BEGIN, DOING), a(JUMP, 1)));
        for (int t = 0; t < 3; t++) y.start(t);
        due("13: 200 STEPS", y.run(1, 200), 67);
        due("16: done", y.thread(1, 5), 67);
        due("16: WAITED", y.thread(2, 6), 67);
        due("16: WAITED", y.thread(0, 6), 66);
        due("13: one that WAITS", y.run(2, 1), 0);
        due("16: no other one", y.thread(0, 6), 66);
        due("13: two that WAIT", y.run(2, 2), 0);
        due("13: the third does not", y.run(2, 3), 1);
    }

    /** One THREAD that goes on for ever, the others passed over or WAITING: of these no turn is one too many. */
    private static void runAlone() {
        for (int goes = 0; goes < 3; goes++) {
            for (int first = 0; first < 3; first++) {
                TransactionCells x = Due.made(CLOCK, Due.code(a(JUMP, 0)));
                x.start(goes);
                due("13: 200 STEPS of THREAD " + goes, x.run(first, 200), 200);
                due("16: STEPS", x.thread(goes, 5), 200);
                // The others are ASLEEP: of three STEPS in turn, as of two, one goes.
                TransactionCells y = Due.made(CLOCK, Due.code(a(JUMP, 0)), Due.code(a(BEGIN, WAITING), a(RETRY)));
                for (int t = 0; t < 3; t++) {
                    y.code(t, t == goes ? 0 : 1);
                    y.start(t);
                    if (t != goes) Due.steps("13", y, t, 1, 5);
                }
                int ahead = (goes + 3 - first) % 3;
                for (int n : new int[] {0, 1, 2, 3, 4, 199, 200}) due("13: those that WAIT, too", y.run(first, n), (n + 2 - ahead) / 3);
            }
        }
    }

    /** Three in a row that WAIT or are passed over: each was looked at once behind the last one that was done. */
    private static void runTillThree() {
        for (int asleep = 0; asleep < 8; asleep++) {
            for (int first = 0; first < 3; first++) {
                TransactionCells x = Due.made(CLOCK, Due.code(a(BEGIN, WAITING), a(RETRY)));
                for (int t = 0; t < 3; t++) {
                    if ((asleep >> t & 1) == 0) continue;
                    x.start(t);
                    Due.steps("13", x, t, 1, 5);
                }
                due("13: nothing goes", x.run(first, 200), 0);
                for (int t = 0; t < 3; t++) due("16: WAITED once", x.thread(t, 6), asleep >> t & 1);
                due("13: again", x.run(first, 1), 0);
                int waited = x.thread(0, 6) + x.thread(1, 6) + x.thread(2, 6);
                due("13: one of them", waited, Integer.bitCount(asleep) + (asleep == 0 ? 0 : 1));
            }
        }
        // Two in a row are not three: the third goes, then the two are looked at anew.
        for (int goes = 0; goes < 3; goes++) {
            for (int first = 0; first < 3; first++) {
                TransactionCells x = Due.made(CLOCK, Due.code(a(SET, 0, 1), a(SET, 0, 2)));
                x.start(goes);
                due("13: by one THREAD alone", x.run(first, 200), 3);
                due("16: ENDED", x.thread(goes, 0), 2);
                due("13: nothing goes", x.run(first, 200), 0);
            }
        }
        waitsBehindTheLast();
        // A STEP that WAITS twice, till the third lets it go on.
        TransactionCells y = Due.made(COARSE, Due.code(a(BEGIN, DOING), a(END)), Due.code(a(BEGIN, DOING), a(SET, 0, 1), a(END)),
            Due.code(a(BEGIN, DOING), a(END)));
        for (int t = 0; t < 3; t++) y.start(t);
        y.step(1);
        due("13: all of them", y.run(2, 200), 2 + 1 + 3 + 3);
        for (int t = 0; t < 3; t++) due("16: ENDED", y.thread(t, 0), 2);
    }

    /** Behind the last STEP that is done there are three turns, no more: two that WAIT, one that is passed over. */
    private static void waitsBehindTheLast() {
        for (int goes = 0; goes < 3; goes++) {
            for (int first = 0; first < 3; first++) {
                TransactionCells x = Due.made(CLOCK, Due.code(a(SET, 0, 1)), Due.code(a(BEGIN, WAITING), a(RETRY)));
                for (int t = 0; t < 3; t++) {
                    x.code(t, t == goes ? 0 : 1);
                    x.start(t);
                    if (t != goes) Due.steps("13", x, t, 1, 5);
                }
                due("13: two STEPS", x.run(first, 200), 2);
                int turns = (goes + 3 - first) % 3 + 3 + 1 + 3;
                int[] waited = new int[3];
                for (int i = 0; i < turns; i++) waited[(first + i) % 3]++;
                for (int t = 0; t < 3; t++) due("16: WAITED, from " + first, x.thread(t, 6), t == goes ? 0 : waited[t]);
            }
        }
    }

    private static void runInTurn() {
        for (int first = 0; first < 3; first++) {
            TransactionCells x = Due.made(CLOCK, Due.code(a(WRITE, 0, 0), a(JUMP, 0)));
            for (int t = 0; t < 3; t++) x.start(t);
            due("13: five", x.run(first, 5), 5);
            for (int t = 0; t < 3; t++) due("16: STEPS", x.thread((first + t) % 3, 5), t < 2 ? 2 : 1);
            for (int i = 0; i < 3; i++) due("19: in turn", x.order(i, 0), (first + i) % 3);
        }
        // What is FAILED, ENDED or BEGINS ANEW is done, not WAITING.
        TransactionCells y = Due.made(CLOCK, Due.code(a(BEGIN, DOING), a(READ, 0, 0), a(SET, 1, 1), a(END)), Due.code(a(WRITE, 0, 0)),
            Due.code(a(FAIL, 0)));
        y.cell(0, 1, 0);
        y.start(0);
        y.step(0);
        y.step(0);
        y.start(1);
        y.start(2);
        due("13: all of them", y.run(1, 200), 2 + 1 + 2 + 3 + 1);
        due("16: ANEW", y.thread(0, 4), 1);
        due("16: FAILED", y.thread(2, 0), 3);
    }

    // ---- explore()

    /** Two THREADS whose HOUSES are many times many, with BEGIN and END one more: which of two is ELDER. */
    private static TransactionCells square(int many, boolean isOneMore) {
        TransactionCells x = new TransactionCells();
        if (isOneMore) x.act(0, BEGIN, DOING, 0, 0);
        if (isOneMore) x.act(0, END, 0, 0, 0);
        for (int i = isOneMore ? 4 : 2; i < many; i++) x.act(0, SET, 0, 0, 0);
        x.start(0);
        x.start(1);
        return x;
    }

    private static void exploreAtMost() {
        due("14: 1", new TransactionCells().explore(1), 1);
        for (int many = 4; many <= 20; many += 4) {
            for (int more = 0; more < 2; more++) {
                int all = many * many + more;
                boolean isOneMore = more == 1;
                due("14: one too few", square(many, isOneMore).explore(all - 1), -all);
                if (all < 400) due("14: one more", square(many, isOneMore).explore(all + 1), all);
                due("14: just so many", square(many, isOneMore).explore(all), all > 400 ? Due.OUTSIDE : all);
                due("14: 400", square(many, isOneMore).explore(400), all > 400 ? -401 : all);
                due("14: 1", square(many, isOneMore).explore(1), -2);
            }
        }
    }

    private static void exploreCosts() {
        TransactionCells x = square(4, false);
        for (int i = 0; i < 9; i++) due("14: 400 each", x.explore(400), 16);
        due("14: 399", x.explore(399), 16);
        due("14: 1 is left", x.explore(2), STATE);
        due("14: the last", x.explore(1), -2);
        due("14: none is left", x.explore(1), STATE);
        due("14: none is left", x.explore(400), STATE);
        due("15: ENDS of the latest that met all", x.end(-1, 0), 1);
        TransactionCells z = square(20, true);
        for (int i = 0; i < 10; i++) due("14: what meets too many costs the same", z.explore(400), -401);
        due("14: none is left", z.explore(1), STATE);
        due("15: none met all", z.end(-1, 0), UNKNOWN);
        // Few of many: n, not what was met.
        TransactionCells v = new TransactionCells();
        for (int i = 0; i < 9; i++) due("14: one house", v.explore(400), 1);
        due("14: 200 of 400", v.explore(200), 1);
        due("14: 200 are left", v.explore(201), STATE);
        due("14: 200 are left", v.explore(200), 1);
        due("14: none", v.explore(1), STATE);
    }

    private static void exploreRefusedCostsNothing() {
        TransactionCells x = square(4, false);
        for (int i = 0; i < 3; i++) {
            due("14: 401", x.explore(401), Due.OUTSIDE);
            due("14: 0", x.explore(0), Due.OUTSIDE);
            due("14: -400", x.explore(-400), Due.OUTSIDE);
        }
        for (int i = 0; i < 9; i++) x.explore(400);
        x.explore(300);
        for (int i = 0; i < 3; i++) due("14: 100 are left", x.explore(101 + i), STATE);
        due("14: 100 are left", x.explore(100), 16);
        due("14: none is left", x.explore(1), STATE);
    }

    private static void exploreLeavesTheHouse() {
        for (int way = 0; way < 4; way++) {
            for (int n : new int[] {400, 3, 1}) {
                TransactionCells x = busy(way);
                TransactionCells y = busy(way);
                x.keep();
                y.keep();
                int met = x.explore(n);
                due("14: met all, or too many", met, met > 0 ? Math.min(met, n) : -1 - n);
                isSame("14: as it is, way " + way, x, y);
                due("14: it goes on so", x.run(0, 200), y.run(0, 200));
                isSame("14: as it goes on, way " + way, x, y);
                x.back();
                y.back();
                isSame("14: as it was kept, way " + way, x, y);
            }
        }
    }

    private static void isSame(String what, TransactionCells x, TransactionCells y) {
        due(what, x.digest(), y.digest());
        due(what, x.check(), y.check());
        for (int i = 0; i < 3; i++) {
            for (int told : new int[] {0, 1, 2, 3, 10, 11, 18, 19, 26, 27}) due(what, x.order(i, told), y.order(i, told));
        }
    }

    /** THREAD 0 in a TRANSACTION with a NEST, 1 in one that will sleep, 2 behind a WRITING; one was undone. */
    private static TransactionCells busy(int way) {
        TransactionCells x = Due.made(way, Due.code(a(BEGIN, DOING), a(READ, 0, 0), a(SET, 1, 1), a(NEST, 5), a(WRITE, 1, 1),
            a(ADD, 0, 1), a(FAIL, 0)),
            Due.code(a(BEGIN, WAITING), a(READ, 0, 2), a(Due.IF_NONE, 0, 4), a(END), a(RETRY)), Due.code(a(WRITE, 3, 0), a(SET, 0, 1),
                a(WRITE, 2, 0)));
        for (int c = 0; c < 4; c++) x.cell(c, 1, 0);
        for (int t = 0; t < 3; t++) x.start(t);
        x.step(2);
        x.run(0, 10);
        return x;
    }

    /**
     * Two write the same CELLS in turn, a NUMBER and a ROW: each order of these WRITINGS is a house of its own
     * (its last one twice, ENDED or not), and who was last in each of the CELLS makes the ENDS.
     */
    private static void exploreEnds() {
        int[] houses = {1, 13, 45, 159};
        for (int cells = 1; cells < 4; cells++) {
            TransactionCells x = new TransactionCells();
            for (int c = 0; c < cells; c++) {
                x.act(0, WRITE, c, 0, 0);
                x.act(1, LINK, c, 5, 0);
            }
            x.code(1, 1);
            x.start(0);
            x.start(1);
            due("14: each order of WRITINGS", x.explore(400), houses[cells]);
            int ends = 1 << cells;
            due("15: who was last, of each CELL", x.end(-1, 0), ends);
            Set<Integer> unlike = new HashSet<>();
            for (int i = 0; i < ends; i++) {
                int sorts = 0;
                for (int c = 0; c < 8; c++) {
                    int sort = x.end(i, c);
                    due("15: sort", sort > 0, c < cells);
                    due("15: what it is", x.end(i, 8 + c), sort == 2 ? 5 : 0);
                    sorts = 3 * sorts + sort;
                }
                unlike.add(sorts);
                due("15: ENDED", x.end(i, 16), 2);
                due("15: ENDED", x.end(i, 17), 2);
                due("15: not STARTED", x.end(i, 18), 0);
            }
            due("15: all unlike", unlike.size(), ends);
            due("15: one further", x.end(ends, 0), UNKNOWN);
        }
    }

    private static void due(String what, boolean got, boolean want) {
        due(what, got ? 1 : 0, want ? 1 : 0);
    }

    /** By which of them a CELL was written first is told by its older VALUES alone, once a third one has written it. */
    private static void exploreOlderValues() {
        TransactionCells x = Due.made(CLOCK, Due.code(a(LINK, 0, 0)), Due.code(a(LINK, 0, 1)), Due.code(a(LINK, 0, 2)));
        for (int t = 0; t < 3; t++) x.start(t);
        // Of k that have written, ENDED or not: k orders in a row. 1 + 3 times 2 + 3 times 4 times 2 + 8 times 6.
        due("14: the latest four VALUES", x.explore(400), 1 + 6 + 24 + 48);
        due("15: who was last", x.end(-1, 0), 3);
    }

    /** Of two SCOPES that are like but for their handlers; what a NEST kept that is done is nobody's any more. */
    private static void exploreScopes() {
        for (int t = 0; t < 3; t++) {
            TransactionCells x = besideWriter(t, Due.code(a(READ, 1, 0), a(Due.IF_NONE, 1, 4), a(TRY, 20), a(JUMP, 5), a(TRY, 21),
                a(SET, 1, 0), a(DONE)));
            due("14: handlers, THREAD " + t, x.explore(400), 8 + 2 * 12);
            TransactionCells y = besideWriter(t, Due.code(a(READ, 1, 0), a(BEGIN, DOING), a(NEST, 9), a(JOIN), a(END), a(SET, 1, 0),
                a(TRY, 9)));
            due("14: a TRY where a NEST was, THREAD " + t, y.explore(400), 10 + 2 * 18);
        }
    }

    /** THREAD t by this CODE; CELL 0 is 1 until the next one writes it. */
    private static TransactionCells besideWriter(int t, int[][] code) {
        TransactionCells x = Due.made(CLOCK, Due.code(a(WRITE, 0, 0)), code);
        x.cell(0, 1, 1);
        x.code(t, 1);
        x.code((t + 1) % 3, 0);
        x.start(t);
        x.start((t + 1) % 3);
        return x;
    }

    /** Who is ELDER stays so in all houses: the elder one takes what the other one OWNS, the younger WAITS for good. */
    private static void exploreElder() {
        int[][] reader = Due.code(a(BEGIN, DOING), a(READ, 0, 0), a(END));
        int[][] owner = Due.code(a(BEGIN, DOING), a(WRITE, 0, 0), a(JUMP, 2));
        for (int t = 0; t < 3; t++) {
            for (int u = 0; u < 3; u++) {
                if (t == u) continue;
                for (int elder : new int[] {t, u}) {
                    TransactionCells x = Due.made(EAGER, reader, owner);
                    x.cell(0, 1, 5);
                    x.code(t, 0);
                    x.code(u, 1);
                    x.start(t);
                    x.start(u);
                    x.step(elder);
                    x.step(t + u - elder);
                    x.step(u);
                    due("17: OWNED", x.told(0, 3), u);
                    // ANEW; then the reader at its END, behind it, ENDED: each with the CELL OWNED again, or not.
                    due("14: THREAD " + t + " reads, " + u + " OWNS", x.explore(400), elder == t ? 1 + 6 : 1);
                    due("15: no END", x.end(-1, 0), 0);
                }
            }
        }
    }

    /** ENDS by how THREADS stand: not STARTED, FAILED, ASLEEP; ENDED ones stand above. */
    private static void exploreStandings() {
        int[][] sleeper = Due.code(a(BEGIN, WAITING), a(RETRY));
        TransactionCells x = Due.made(CLOCK, sleeper, Due.code(a(FAIL, 0)), Due.code());
        x.start(0);
        x.start(1);
        due("14: a house each", x.explore(400), 3 * 2);
        due("15: one", x.end(-1, 0), 1);
        int[] stands = {4, 3, 0};
        for (int t = 0; t < 3; t++) due("15: THREAD " + t, x.end(0, 16 + t), stands[t]);
        x.reset();
        due("14: none goes", x.explore(1), 1);
        for (int t = 0; t < 3; t++) due("15: THREAD " + t, x.end(0, 16 + t), 0);
        // THREAD 0 WAITS for THE LOCK; 1, which has it, goes round: a STEP that leads to the same house is done all the same.
        TransactionCells y = Due.made(COARSE, sleeper, Due.code(a(BEGIN, DOING), a(JUMP, 1)));
        y.start(1);
        y.run(1, 2);
        y.start(0);
        due("14: a circle", y.explore(400), 1);
        due("15: no END", y.end(-1, 0), 0);
        due("15: no END", y.end(0, 0), UNKNOWN);
    }

    private static void endTells() {
        TransactionCells x = new TransactionCells();
        int[] sorts = {1, 2, 0, 1, 2, 0, 1, 2};
        int[] what = {MIN, 0, 0, -1, 5, 0, MAX, 3};
        for (int c = 0; c < 8; c++) x.cell(c, sorts[c], what[c]);
        x.start(1);
        x.start(2);
        x.run(2, 1);
        x.act(0, SET, 0, 0, 0);
        due("14: THREAD 1 goes still", x.explore(400), 2);
        due("15: how many", x.end(-1, 0), 1);
        for (int c = 0; c < 8; c++) {
            due("15: sort of " + c, x.end(0, c), sorts[c]);
            due("15: what it is, of " + c, x.end(0, 8 + c), what[c]);
        }
        due("15: THREAD 0", x.end(0, 16), 0);
        due("15: THREAD 1", x.end(0, 17), 2);
        due("15: THREAD 2", x.end(0, 18), 2);
        due("15: what 19", x.end(0, 19), Due.OUTSIDE);
        due("15: what -1", x.end(0, -1), Due.OUTSIDE);
    }

    // ---- what is told

    /** Each what of each THREAD, the least and the greatest of them with numbers of their own. */
    private static void threadTells() {
        for (int t = 0; t < 3; t++) {
            TransactionCells x = new TransactionCells();
            int[] r = {MIN, MAX, -1, 1};
            for (int i = 0; i < 4; i++) x.act(0, SET, i, r[i], 0);
            x.act(0, TRY, 40, 0, 0);
            x.act(0, BEGIN, SURE, 0, 0);
            x.act(0, TRY, 40, 0, 0);
            x.start(t);
            for (int i = 0; i < 7; i++) x.step(t);
            int[] want = {1, 7, 0, SURE, 0, 7, 0, 2, MIN, MAX, -1, 1};
            for (int u = 0; u < 3; u++) {
                for (int what = 0; what < 12; what++) {
                    due("16: thread(" + u + ", " + what + ")", x.thread(u, what), u == t ? want[what] : what == 3 ? NONE : 0);
                }
                due("16: what 12", x.thread(u, 12), Due.OUTSIDE);
                due("16: what -1", x.thread(u, -1), Due.OUTSIDE);
            }
        }
    }

    /** CELLS 0 and 7, by each THREAD: what stands where, and NONE or 0 for the others. */
    private static void toldTells() {
        for (int t = 0; t < 3; t++) {
            for (int c : new int[] {0, 7}) {
                TransactionCells x = Due.made(EAGER, Due.code(a(WRITE, 3, 0), a(WRITE, c, 0), a(BEGIN, DOING), a(READ, 1, c),
                    a(LINK, c, 4)));
                x.start(t);
                for (int i = 0; i < 5; i++) x.step(t);
                for (int what = 0; what < 14; what++) {
                    int want = what >= 3 && what < 11 ? NONE : 0;
                    if (what == 0) want = 1;
                    if (what == 2) want = 2;
                    if (what == 3) want = t;
                    if (what == 5 + t) want = 2;
                    if (what == 8 + t) want = 2;
                    if (what == 11 + t) want = 4;
                    due("17: told(" + c + ", " + what + ") with THREAD " + t, x.told(c, what), want);
                    due("17: of another CELL", x.told(4, what), what >= 3 && what < 11 ? NONE : 0);
                }
                due("17: what 14", x.told(c, 14), Due.OUTSIDE);
                due("17: what -1", x.told(c, -1), Due.OUTSIDE);
                x.reset();
                x.cell(c, 1, 5);
                x.wipe();
                x.act(0, BEGIN, SURE, 0, 0);
                x.act(0, READ, 0, c, 0);
                x.act(0, VOID, c, 0, 0);
                x.start(t);
                Due.steps("17", x, t, 1, 1);
                due("17: HELD by " + t, x.told(c, 4), t);
                due("17: not OWNED", x.told(c, 3), NONE);
                due("17: SURE ones have no READS", x.told(c, 5 + t), NONE);
                Due.steps("17", x, t, 1);
                due("17: OWNED", x.told(c, 3), t);
                due("17: NOTHING in the LOG", x.told(c, 8 + t), 0);
                due("17: NOTHING in the LOG", x.told(c, 11 + t), 0);
                due("18: SURE", x.count(6), t);
            }
        }
    }

    private static void countTells() {
        for (int t = 0; t < 3; t++) {
            TransactionCells x = Due.made(COARSE, Due.code(a(WRITE, 0, 0), a(BEGIN, SURE), a(READ, 0, 0)));
            x.start(t);
            for (int i = 0; i < 3; i++) x.step(t);
            int[] want = {1, 1, 1, 2, 0, t, t, COARSE};
            for (int what = 0; what < 8; what++) due("18: count(" + what + ")", x.count(what), want[what]);
        }
        // Each time that one BEGINS ANEW is one, by whom it may be.
        TransactionCells y = Due.made(PICTURE, Due.code(a(BEGIN, DOING), a(READ, 0, 0), a(READ, 0, 0)), Due.code(a(WRITE, 0, 0),
            a(JUMP, 0)));
        y.cell(0, 1, 0);
        y.start(0);
        y.start(1);
        Due.steps("18", y, 0, 1, 1);
        for (int i = 1; i < 5; i++) {
            Due.steps("18", y, 1, 1, 1);
            Due.steps("18", y, 0, 2, 1);
            due("18: BEGAN ANEW", y.count(4), i);
            due("16: BEGAN ANEW", y.thread(0, 4), i);
            due("16: the other one did not", y.thread(1, 4), 0);
            due("18: begun", y.count(3), 1 + i);
        }
    }

    // ---- keep(), back(), digest()

    private static void keepInPlace() {
        TransactionCells x = Due.made(CLOCK, Due.code(a(ADD, 0, 1), a(WRITE, 0, 0), a(JUMP, 0)));
        due("23: none was", x.back(), STATE);
        due("22: keep", x.keep(), 0);
        long first = x.digest();
        x.start(0);
        x.run(0, 20);
        long second = x.digest();
        due("23: back", x.back(), 0);
        due("23: as it was kept", x.digest(), first);
        due("23: back once more", x.back(), 0);
        x.start(0);
        x.run(0, 20);
        due("23: it goes on as it did", x.digest(), second);
        due("22: in place of the one before", x.keep(), 0);
        x.reset();
        x.wipe();
        x.way(3);
        for (int k = 0; k < 6; k++) x.row(k, 0, 1);
        due("23: back", x.back(), 0);
        due("23: the later one", x.digest(), second);
        for (int k = 0; k < 6; k++) due("23: ROWS are MISSING", x.tear(k), 0);
        due("23: THE ORDER", x.order(6, 0), 0);
        due("21: right", x.check(), NONE);
        x.run(0, 3);
        due("23: on", x.count(1), 8);
    }

    /** What explore() met, and what it has cost, is neither kept nor brought back; nor is what was kept itself. */
    private static void keepNotExplored() {
        TransactionCells x = square(4, false);
        x.keep();
        due("14: 16", x.explore(400), 16);
        x.back();
        due("15: back() leaves ENDS", x.end(-1, 0), 1);
        due("15: ENDED", x.end(0, 16), 2);
        x.reset();
        x.explore(400);
        due("15: not STARTED", x.end(0, 16), 0);
        x.back();
        due("15: not those of then", x.end(0, 16), 0);
        for (int i = 0; i < 8; i++) {
            x.keep();
            x.explore(400);
            x.back();
        }
        due("14: none is left", x.explore(1), STATE);
        TransactionCells y = square(4, false);
        y.keep();
        y.explore(400);
        y.back();
        y.back();
        for (int i = 0; i < 9; i++) due("14: 3600 are left", y.explore(400), 16);
        due("14: none is left", y.explore(1), STATE);
    }

    /** As longs: numbers below 0 take all of its 64 places, and what goes beyond is lost. */
    private static void digestWraps() {
        for (int v : new int[] {MIN, MAX, -1, 0, 1 << 20}) {
            TransactionCells x = new TransactionCells();
            long before = x.digest();
            x.cell(0, 1, v);
            // Of 156 numbers the first two.
            long one = 1;
            for (int i = 1; i < 155; i++) one *= 31;
            due("24: the number of CELL 0, " + v, x.digest(), before + 31 * one + one * v);
            TransactionCells y = new TransactionCells();
            before = y.digest();
            y.cell(7, 1, v);
            long last = 1;
            for (int i = 99; i < 155; i++) last *= 31;
            due("24: the number of CELL 7, " + v, y.digest(), before + 31 * last + last * v);
            TransactionCells z = new TransactionCells();
            z.act(0, SET, 3, v, 0);
            z.code(2, 0);
            z.start(2);
            before = z.digest();
            z.step(2);
            // Of THREAD 2 PLACE, STEPS and REGISTER 3: the latter has the eight of count() behind it.
            due("24: of THREAD 2, " + v, z.digest(), before + power(18) + power(14) + power(8) * v);
            before = z.digest();
            z.reset();
            z.way(3);
            due("24: the last is the WAY", z.digest(), before - power(18) - power(14) - power(8) * v - power(19) + 3);
        }
    }

    private static long power(int n) {
        long power = 1;
        for (int i = 0; i < n; i++) power *= 31;
        return power;
    }
}
