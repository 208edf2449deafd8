/** Terms 2: a STEP that WAITS does nothing at all; one that BEGINS ANEW is as at its BEGIN; START, and four VALUES. */
public final class WaitEdgesTest {
    private static final int NONE = Due.NONE;
    private static final int SET = Due.SET, READ = Due.READ, WRITE = Due.WRITE, LINK = Due.LINK, VOID = Due.VOID, ITEM = Due.ITEM;
    private static final int BEGIN = Due.BEGIN, END = Due.END, RETRY = Due.RETRY, EITHER = Due.EITHER, NEST = Due.NEST;
    private static final int TRY = Due.TRY, FAIL = Due.FAIL;
    private static final int DOING = Due.DOING, READING = Due.READING, WAITING = Due.WAITING, SURE = Due.SURE;
    private static final int CLOCK = Due.CLOCK, EAGER = Due.EAGER, PICTURE = Due.PICTURE, COARSE = Due.COARSE;

    private static int first = 0;

    private static void due(String what, long got, long want) {
        Due.due(what, got, want);
    }

    private static int[] a(int... act) {
        return act;
    }

    public static void main(String[] args) {
        for (int i = 0; i < 3; i++) {
            first = i;
            waitsToBegin();
            waitsForHeld();
            waitsForHeldOutside();
            waitsForLockOutside();
            waitsForOwned();
            waitsAtEnd();
            waitsAsleep();
            anewAtReading();
            anewAtEnd();
            anewAsItFails();
            anewAtRetry();
            anewByElder();
            anewByPicture();
            startIsNotPassed();
            startBecomesTheClock();
            readsOfAnother();
            fourValues();
            valuesOfUnlikeVersions();
        }
        Due.close();
    }

    /** The THREADS, from that one on which is the first in this round: all tests are done with each of them. */
    private static int th(int i) {
        return (first + i) % 3;
    }

    private static TransactionCells going(int way, int[][]... codes) {
        TransactionCells x = Due.made(way, codes);
        for (int c = 0; c < 8; c++) x.cell(c, 1, 10 * c);
        for (int i = 0; i < 3; i++) {
            x.code(th(i), Math.min(i, codes.length - 1));
            x.start(th(i));
        }
        return x;
    }

    private static void done(TransactionCells x, int t, int steps) {
        for (int i = 0; i < steps; i++) due("12: done", x.step(t), 1);
    }

    // ---- WAITS

    /**
     * A STEP of a THREAD WAITS, and all is as it was, but for how many STEPS did: of the 156 numbers in digest()
     * that one alone is one more.
     */
    private static void waits(String what, TransactionCells x, int t) {
        long digest = x.digest();
        due(what, x.step(t), 0);
        long one = 1;
        for (int i = 8 * 14 + 12 * t + 6; i < 155; i++) one *= 31;
        due(what + ": nothing at all", x.digest(), digest + one);
        due("21: right", x.check(), NONE);
    }

    private static void waitsToBegin() {
        for (int kind = 0; kind < 4; kind++) {
            for (int other = 0; other < 4; other++) {
                for (int way = 0; way < 4; way++) {
                    TransactionCells x = going(way, Due.behind(kind, a(SET, 0, 1)), Due.behind(other, a(SET, 0, 1)));
                    done(x, th(0), 1);
                    String what = "12: BEGIN of KIND " + other + " with one of " + kind + " under way, way " + way;
                    if (way == COARSE || kind == SURE && other == SURE) waits(what, x, th(1));
                    else due(what, x.step(th(1)), 1);
                }
            }
        }
    }

    private static void waitsForHeld() {
        int[][] acts = {a(READ, 1, 4), a(ITEM, 1, 4, 0), a(WRITE, 4, 1), a(LINK, 4, 1), a(VOID, 4)};
        int[][] holders = {a(READ, 0, 4), a(WRITE, 4, 0)};
        for (int way = 0; way < 3; way++) {
            for (int kind = 0; kind < 3; kind++) {
                for (int[] act : acts) {
                    for (int[] holder : holders) {
                        if (kind == READING && act[0] != READ && act[0] != ITEM) continue;
                        TransactionCells x = going(way, Due.behind(SURE, holder, a(END)), Due.behind(kind, act));
                        done(x, th(1), 1);
                        done(x, th(0), 2);
                        due("17: HELD", x.told(4, 4), th(0));
                        waits("12: HELD by another THREAD, ACT " + act[0] + " in KIND " + kind + ", way " + way, x, th(1));
                        done(x, th(0), 1);
                        due("12: HELD no more: another ACT than WAITING", x.step(th(1)) > 0 ? 1 : 0, 1);
                    }
                }
            }
            // Held by itself, and what is beside it.
            TransactionCells y = going(way, Due.behind(SURE, a(READ, 0, 4), a(READ, 1, 4), a(WRITE, 4, 1), a(READ, 0, 4), a(END)),
                Due.behind(DOING, a(READ, 0, 3), a(READ, 0, 5), a(WRITE, 3, 0), a(VOID, 5), a(END)));
            done(y, th(0), 4);
            done(y, th(1), 6);
            done(y, th(0), 2);
        }
    }

    private static void waitsForHeldOutside() {
        for (int way = 0; way < 3; way++) {
            for (int[] act : new int[][] {a(READ, 1, 7), a(ITEM, 1, 7, 0), a(WRITE, 7, 1), a(LINK, 7, 1), a(VOID, 7)}) {
                TransactionCells x = going(way, Due.behind(SURE, a(READ, 0, 7), a(END)), Due.code(act));
                done(x, th(0), 2);
                waits("12: HELD, outside, ACT " + act[0] + ", way " + way, x, th(1));
                done(x, th(0), 1);
                due("12: HELD no more", x.step(th(1)) > 0 ? 1 : 0, 1);
            }
        }
    }

    private static void waitsForLockOutside() {
        for (int kind = 0; kind < 4; kind++) {
            for (int[] act : new int[][] {a(READ, 1, 7), a(ITEM, 1, 7, 0), a(WRITE, 7, 1), a(LINK, 7, 1), a(VOID, 7)}) {
                TransactionCells x = going(COARSE, Due.behind(kind, a(END), act), Due.code(act));
                done(x, th(0), 1);
                waits("12: THE LOCK is another THREAD's, ACT " + act[0], x, th(1));
                done(x, th(0), 1);
                due("12: THE LOCK is free", x.step(th(1)), act[0] == ITEM ? 3 : 1);
                due("12: and of the other one", x.step(th(0)) > 0 ? 1 : 0, 1);
            }
        }
        // What meets no CELL does not WAIT for THE LOCK.
        TransactionCells y = going(COARSE, Due.behind(DOING, a(END)), Due.code(a(SET, 0, 1), a(TRY, 2), a(FAIL, 0)));
        done(y, th(0), 1);
        Due.steps("12: no CELL is met", y, th(1), 1, 1, 1, 3);
    }

    private static void waitsForOwned() {
        int[][] acts = {a(READ, 1, 4), a(ITEM, 1, 4, 0), a(WRITE, 4, 1), a(LINK, 4, 1), a(VOID, 4)};
        for (int[] act : acts) {
            TransactionCells x = going(EAGER, Due.behind(DOING, a(WRITE, 4, 0), a(END)), Due.behind(DOING, act), Due.code(act));
            done(x, th(0), 2);
            done(x, th(1), 1);
            waits("12: OWNED by an ELDER one, ACT " + act[0], x, th(1));
            TransactionCells y = going(EAGER, Due.behind(DOING, a(WRITE, 4, 0), a(END)), Due.code(act));
            done(y, th(0), 2);
            if (act[0] == READ || act[0] == ITEM) due("12: READING outside: OWNED is no matter", y.step(th(1)), act[0] == READ ? 1 : 3);
            else waits("12: OWNED, outside, ACT " + act[0], y, th(1));
            // By other WAYS nothing is OWNED.
            for (int way : new int[] {CLOCK, PICTURE}) {
                TransactionCells z = going(way, Due.behind(DOING, a(WRITE, 4, 0), a(END)), Due.behind(DOING, act), Due.code(act));
                done(z, th(0), 2);
                done(z, th(1), 1);
                due("12: in a LOG only, way " + way, z.step(th(1)), act[0] == ITEM ? 3 : 1);
                due("12: in a LOG only, outside, way " + way, z.step(th(2)), act[0] == ITEM ? 3 : 1);
            }
        }
        TransactionCells v = going(EAGER, Due.behind(READING, a(READ, 0, 4), a(END)), Due.behind(DOING, a(WRITE, 4, 0), a(END)));
        done(v, th(0), 2);
        Due.steps("12: reading OWNS nothing", v, th(1), 1, 1, 1);
    }

    private static void waitsAtEnd() {
        for (int way = 0; way < 3; way++) {
            for (int[] act : new int[][] {a(READ, 1, 4), a(WRITE, 4, 1), a(VOID, 4)}) {
                // EAGER: a SURE one that wants what is OWNED lets its owner BEGIN ANEW.
                if (way == EAGER && act[0] != READ) continue;
                TransactionCells x = going(way, Due.behind(SURE, a(READ, 0, 4), a(END)), Due.behind(WAITING, act, a(END)));
                done(x, th(1), 2);
                done(x, th(0), 2);
                waits("12: END with a HELD CELL of ACT " + act[0] + ", way " + way, x, th(1));
                done(x, th(0), 1);
                Due.steps("12: END", x, th(1), 1, 4);
            }
            // HELD and other than read, both: it WAITS first.
            TransactionCells y = going(way, Due.behind(SURE, a(READ, 0, 4), a(END)), Due.behind(DOING, a(READ, 0, 4), a(READ, 0, 5),
                a(END)),
                Due.code(a(WRITE, 5, 0)));
            done(y, th(1), 3);
            done(y, th(2), 1);
            done(y, th(0), 2);
            waits("12: END with a HELD CELL, another has another VERSION, way " + way, y, th(1));
            done(y, th(0), 1);
            Due.steps("12: END", y, th(1), 2);
        }
        // A READING one by PICTURE has no READS: HELD is no matter at its END.
        TransactionCells z = going(PICTURE, Due.behind(SURE, a(READ, 0, 4), a(END)), Due.behind(READING, a(READ, 0, 4), a(END)));
        done(z, th(1), 2);
        done(z, th(0), 2);
        Due.steps("12: END of a PICTURE of what is HELD", z, th(1), 1, 4);
    }

    private static void waitsAsleep() {
        for (int way = 0; way < 4; way++) {
            TransactionCells x = going(way, Due.behind(WAITING, a(READ, 1, 4), a(WRITE, 5, 1), a(RETRY)), Due.code(a(WRITE, 5, 0),
                a(WRITE, 3, 0)),
                Due.behind(DOING, a(WRITE, 4, 0), a(END), a(BEGIN, SURE), a(READ, 0, 4)));
            done(x, th(0), 3);
            due("12: ASLEEP", x.step(th(0)), 5);
            waits("12: all READS have the VERSION, way " + way, x, th(0));
            done(x, th(1), 2);
            waits("12: other CELLS have other VERSIONS, way " + way, x, th(0));
            TransactionCells y = going(way, Due.behind(WAITING, a(RETRY)), Due.code(a(WRITE, 5, 0)));
            Due.steps("12: ASLEEP with no READS", y, th(0), 1, 5);
            done(y, th(1), 1);
            waits("12: no READS, way " + way, y, th(0));
            TransactionCells z = going(way, Due.behind(WAITING, a(READ, 1, 4), a(RETRY)), Due.code(a(WRITE, 4, 0), a(BEGIN, SURE),
                a(READ, 0, 4), a(END)));
            Due.steps("12: ASLEEP", z, th(0), 1, 1, 5);
            done(z, th(1), 3);
            if (way == COARSE) waits("12: THE LOCK is another THREAD's", z, th(0));
            else Due.steps("12: it wakes, be it HELD, way " + way, z, th(0), 2, 0);
            done(z, th(1), 1);
            Due.steps("12: then it goes on, way " + way, z, th(0), way == COARSE ? 2 : 1);
            due("18: THE LOCK", z.count(5), way == COARSE ? th(0) : NONE);
        }
    }

    // ---- BEGINS ANEW

    /** The first THREAD as it is behind a BEGIN at PLACE 2, with r[3] 6 and one TRY outside. */
    private static void isAnew(String what, TransactionCells x, int kind) {
        due(what + ": GOING", x.thread(th(0), 0), 1);
        due(what + ": PLACE", x.thread(th(0), 1), 3);
        due(what + ": KIND", x.thread(th(0), 3), kind);
        due(what + ": BEGAN ANEW", x.thread(th(0), 4), 1);
        due(what + ": SCOPES", x.thread(th(0), 7), 1);
        for (int r = 0; r < 4; r++) due(what + ": REGISTER " + r, x.thread(th(0), 8 + r), r == 3 ? 6 : 0);
        for (int c = 0; c < 8; c++) {
            due(what + ": not OWNED", x.told(c, 3) == th(0) ? 1 : 0, 0);
            due(what + ": READS", x.told(c, 5 + th(0)), NONE);
            due(what + ": LOG", x.told(c, 8 + th(0)), NONE);
            due(what + ": LOG", x.told(c, 11 + th(0)), 0);
        }
        due(what + ": not in THE ORDER", x.count(2) == 0 || x.order(x.count(2) - 1, 0) != th(0) ? 1 : 0, 1);
        due(what + ": BEGAN ANEW", x.count(4), 1);
    }

    /** r[3] is 6, a TRY, BEGIN at PLACE 2, then CELLS 4 and 5 are read, 6 is written, in SCOPES; then these ACTS. */
    private static int[][] code(int kind, int[]... last) {
        int[][] first = {a(SET, 3, 6), a(TRY, 30), a(BEGIN, kind), a(kind == READING ? TRY : NEST, 31), a(READ, 1, 4), a(SET, 3, 7),
            a(READ, 2, 5), kind == READING ? a(SET, 0, 1) : a(WRITE, 6, 3), a(kind == READING ? TRY : NEST, 32)};
        int[][] all = new int[first.length + last.length][];
        System.arraycopy(first, 0, all, 0, first.length);
        System.arraycopy(last, 0, all, first.length, last.length);
        return all;
    }

    private static void anewAtReading() {
        for (int way = 0; way < 3; way++) {
            for (int kind = 0; kind < 3; kind++) {
                if (way == PICTURE && kind == READING) continue;
                for (int cell : new int[] {4, 5, 7}) {
                    TransactionCells x = going(way, code(kind, a(READ, 0, cell)), Due.code(a(WRITE, 5, 0), a(WRITE, 4, 0), a(WRITE, 7, 0)));
                    done(x, th(0), 9);
                    done(x, th(1), 3);
                    due("12: CELL " + cell, x.step(th(0)), 2);
                    isAnew("12: READING, way " + way + ", KIND " + kind + ", CELL " + cell, x, kind);
                    // START is the CLOCK: what was written before is not above it.
                    done(x, th(0), 7);
                    for (int r = 0; r < 3; r++) due("12: the VALUES of now", x.thread(th(0), 8 + r), 0);
                }
            }
        }
    }

    private static void anewAtEnd() {
        for (int way = 0; way < 3; way++) {
            for (int cell : new int[] {4, 5, 6, 7}) {
                TransactionCells x = going(way, Due.code(a(SET, 3, 6), a(TRY, 30), a(BEGIN, DOING), a(SET, 3, 7), a(READ, 1, 4),
                    a(READ, 2, 5), a(WRITE, 2, 3), a(END)), Due.code(a(WRITE, cell, 0)));
                done(x, th(0), 7);
                done(x, th(1), 1);
                boolean isRead = cell == 4 || cell == 5;
                due("12: END, CELL " + cell + " has another VERSION", x.step(th(0)), isRead ? 2 : 1);
                if (isRead) isAnew("12: END, way " + way, x, DOING);
                else due("12: it COUNTS", x.count(1), 2);
            }
        }
    }

    private static void anewAsItFails() {
        for (int way = 0; way < 3; way++) {
            for (int cell : new int[] {4, 5, 7}) {
                TransactionCells x = going(way, Due.code(a(SET, 3, 6), a(TRY, 30), a(BEGIN, WAITING), a(EITHER, 31), a(READ, 1, 4),
                    a(SET, 3, 7), a(READ, 2, 5), a(WRITE, 6, 3), a(FAIL, 0)), Due.code(a(WRITE, cell, 0)));
                done(x, th(0), 8);
                done(x, th(1), 1);
                boolean isRead = cell != 7;
                due("12: FAILS, CELL " + cell + " has another VERSION", x.step(th(0)), isRead ? 2 : 1);
                if (isRead) isAnew("12: FAILS, way " + way, x, WAITING);
                else due("12: the TRY of before", x.thread(th(0), 1), 30);
            }
            // A SURE one, whatever was written: it COUNTS.
            TransactionCells y = going(way, Due.behind(SURE, a(READ, 1, 4), a(FAIL, 0)), Due.code(a(WRITE, 5, 0)));
            done(y, th(0), 2);
            done(y, th(1), 1);
            Due.steps("12: SURE", y, th(0), 3);
            due("12: it COUNTS", y.count(1), 2);
        }
    }

    private static void anewAtRetry() {
        for (int way = 0; way < 3; way++) {
            for (int cell : new int[] {4, 5, 7}) {
                TransactionCells x = going(way, code(WAITING, a(RETRY)), Due.code(a(WRITE, cell, 0)));
                done(x, th(0), 9);
                done(x, th(1), 1);
                boolean isRead = cell != 7;
                due("12: RETRY, CELL " + cell + " has another VERSION", x.step(th(0)), isRead ? 2 : 5);
                if (isRead) isAnew("12: RETRY, way " + way, x, WAITING);
            }
        }
        for (int way = 0; way < 4; way++) {
            TransactionCells y = going(way, code(WAITING, a(RETRY)), Due.code(a(WRITE, 5, 0)));
            done(y, th(0), 9);
            Due.steps("12: ASLEEP", y, th(0), 5);
            due("16: SCOPES stay", y.thread(th(0), 7), 3);
            due("16: REGISTERS stay", y.thread(th(0), 11), 7);
            done(y, th(1), 1);
            Due.steps("12: woken", y, th(0), 2);
            isAnew("12: woken, way " + way, y, WAITING);
        }
    }

    private static void anewByElder() {
        for (int kind : new int[] {DOING, WAITING}) {
            for (int[] act : new int[][] {a(READ, 0, 6), a(WRITE, 6, 0), a(VOID, 6)}) {
                TransactionCells x = going(EAGER, code(kind, a(END)), Due.behind(DOING, act));
                done(x, th(1), 1);
                done(x, th(0), 9);
                due("16: in three SCOPES", x.thread(th(0), 7), 3);
                done(x, th(1), 1);
                isAnew("12: by an ELDER one", x, kind);
                due("16: by no STEP of its own", x.thread(th(0), 5), 9);
            }
        }
    }

    private static void anewByPicture() {
        TransactionCells x = going(PICTURE, code(READING, a(READ, 0, 7)), Due.code(a(WRITE, 7, 0), a(WRITE, 7, 0), a(WRITE, 7, 0),
            a(WRITE, 7, 0)));
        done(x, th(0), 9);
        done(x, th(1), 4);
        due("12: no VALUE is left", x.step(th(0)), 2);
        isAnew("12: PICTURE", x, READING);
        done(x, th(0), 7);
        due("12: START is the CLOCK", x.thread(th(0), 8), 0);
    }

    // ---- START

    /** A VERSION that is START is not above it: READS may be other, and it goes on till its END. */
    private static void startIsNotPassed() {
        for (int above = 0; above < 2; above++) {
            TransactionCells x = going(CLOCK, Due.behind(DOING, a(READ, 0, 0), a(READ, 1, 1), a(END)), Due.code(a(WRITE, 1, 3),
                a(WRITE, 0, 3)),
                Due.code(a(WRITE, 1, 3)));
            done(x, th(1), 1);
            done(x, th(0), 2);
            done(x, th(1), 1);
            if (above == 1) done(x, th(2), 1);
            due("12: VERSION " + (1 + 2 * above) + " with START 1", x.step(th(0)), above == 1 ? 2 : 1);
            if (above == 0) Due.steps("12: END", x, th(0), 2);
        }
    }

    /** The CLOCK, not the VERSION that was read: what was written in between is not above START any more. */
    private static void startBecomesTheClock() {
        int[][] reader = Due.behind(DOING, a(READ, 0, 0), a(READ, 1, 1), a(READ, 2, 2), a(READ, 3, 3), a(END));
        TransactionCells x = going(CLOCK, reader, Due.code(a(WRITE, 1, 3), a(WRITE, 2, 3), a(WRITE, 0, 3), a(WRITE, 3, 3)));
        done(x, th(0), 2);
        done(x, th(1), 2);
        Due.steps("12: START becomes 2", x, th(0), 1);
        done(x, th(1), 1);
        Due.steps("12: VERSION 2 is not above START, though a READ one is other", x, th(0), 1);
        done(x, th(1), 1);
        Due.steps("12: VERSION 4 is above it", x, th(0), 2);
        // A CELL that is in READS already does not change START.
        TransactionCells y = going(CLOCK, Due.behind(DOING, a(READ, 0, 0), a(READ, 0, 0), a(READ, 1, 1), a(READ, 1, 2), a(END)),
            Due.code(a(WRITE, 1, 3), a(WRITE, 0, 3), a(WRITE, 2, 3)));
        done(y, th(0), 2);
        done(y, th(1), 1);
        Due.steps("12: once more", y, th(0), 1);
        done(y, th(1), 1);
        Due.steps("12: START is 0 still", y, th(0), 2);
    }

    /** What another THREAD has in its READS is no matter, be its VERSION the present one or an older one. */
    private static void readsOfAnother() {
        int[][] reader = Due.behind(DOING, a(READ, 0, 4), a(READ, 1, 4), a(END));
        for (int way = 0; way < 3; way++) {
            TransactionCells x = going(way, reader, Due.code(a(WRITE, 4, 3)), reader);
            done(x, th(0), 2);
            done(x, th(1), 1);
            done(x, th(2), 3);
            due("17: READS of the one", x.told(4, 5 + th(0)), 0);
            due("17: READS of the other", x.told(4, 5 + th(2)), 1);
            Due.steps("12: another VERSION than its own, though not than the other one's", x, th(0), 2);
            Due.steps("12: the other one", x, th(2), 1, 4);
            done(x, th(0), 3);
            due("21: right", x.check(), NONE);
        }
    }

    // ---- the latest four VALUES

    /** A PICTURE behind so many WRITINGS, read behind so many more: four VALUES are kept, the present one, too. */
    private static void fourValues() {
        for (int before = 0; before < 5; before++) {
            for (int more = 0; more < 6; more++) {
                int[][] writer = new int[24][];
                for (int i = 0; i < 12; i++) {
                    writer[2 * i] = a(SET, 1, 100 + i);
                    writer[2 * i + 1] = a(WRITE, 6, 1);
                }
                TransactionCells x = going(PICTURE, Due.behind(READING, a(READ, 2, 6), a(END)), writer);
                done(x, th(1), 2 * before);
                done(x, th(0), 1);
                done(x, th(1), 2 * more);
                String what = "12: " + before + " WRITINGS before, " + more + " behind";
                due(what, x.step(th(0)), more < 4 ? 1 : 2);
                int start = more < 4 ? before : before + more;
                if (more >= 4) done(x, th(0), 1);
                due(what, x.thread(th(0), 10), start == 0 ? 60 : 99 + start);
                due("17: not in READS", x.told(6, 5 + th(0)), NONE);
                done(x, th(0), 1);
                due("21: right", x.check(), NONE);
                due("19: its place", x.order(start, 0), th(0));
            }
        }
    }

    /** Of each CELL the latest VALUE whose VERSION is not above START; CELLS that were written less go further back. */
    private static void valuesOfUnlikeVersions() {
        int[][] writer = Due.code(a(SET, 0, 1), a(WRITE, 1, 0), a(SET, 0, 2), a(WRITE, 2, 0), a(SET, 0, 3), a(WRITE, 1, 0), a(SET, 0, 4),
            a(BEGIN, DOING), a(WRITE, 2, 0), a(LINK, 1, 3), a(VOID, 1), a(END), a(VOID, 3), a(LINK, 1, 2));
        TransactionCells x = going(PICTURE, Due.behind(READING, a(READ, 1, 1), a(READ, 2, 2), a(READ, 3, 3), a(END)), writer,
            Due.behind(READING, a(READ, 1, 1)));
        done(x, th(1), 4);
        done(x, th(0), 1);
        done(x, th(1), 8);
        done(x, th(2), 1);
        due("18: CLOCK", x.count(0), 4);
        done(x, th(1), 2);
        due("18: CLOCK", x.count(0), 6);
        done(x, th(0), 3);
        due("12: VERSION 1, of 0, 1, 3, 4, 6", x.thread(th(0), 9), 1);
        due("12: VERSION 2, of 0, 2, 4", x.thread(th(0), 10), 2);
        due("12: VERSION 0, of 0, 5", x.thread(th(0), 11), 30);
        due("12: NOTHING of VERSION 4", x.step(th(2)), 3);
        due("12: NULL", x.thread(th(2), 2), 1);
        done(x, th(0), 1);
        due("19: directly ahead of what made the CLOCK 3", x.order(2, 0), th(0));
        due("21: right", x.check(), NONE);
    }
}
