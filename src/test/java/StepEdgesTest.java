import java.util.ArrayList;
import java.util.List;

/** Terms 2, what STEPS do just at their bounds: what is BARRED, four SCOPES, the CODE's end, four VALUES, what is left. */
public final class StepEdgesTest {
    private static final int NONE = Due.NONE;
    private static final int SET = Due.SET, READ = Due.READ, WRITE = Due.WRITE, LINK = Due.LINK, VOID = Due.VOID;
    private static final int JUMP = Due.JUMP, BEGIN = Due.BEGIN, END = Due.END, RETRY = Due.RETRY, EITHER = Due.EITHER;
    private static final int OR = Due.OR, NEST = Due.NEST, JOIN = Due.JOIN, TRY = Due.TRY, DONE = Due.DONE, FAIL = Due.FAIL;
    private static final int DOING = Due.DOING, READING = Due.READING, WAITING = Due.WAITING, SURE = Due.SURE;
    private static final int CLOCK = Due.CLOCK, EAGER = Due.EAGER, COARSE = Due.COARSE;
    private static final int INDEX = 2, BARRED = 5;
    private static final int FINE = 1, FAILS = 3, SLEEPS = 5;

    private static void due(String what, long got, long want) {
        Due.due(what, got, want);
    }

    private static int[] a(int... act) {
        return act;
    }

    public static void main(String[] args) {
        for (int t = 0; t < 3; t++) {
            barredByKind(t);
            barredDoesNothing(t);
            barredEnd(t);
            barredToClose(t);
            fourScopes(t);
            scopesInsideAndOutside(t);
            codesEnd(t);
            codesEndInScopes(t);
            noScopeIsLeft(t);
            eitherIsJustGone(t);
            nestBringsBack(t);
            retryToEither(t);
            nothingOwned(t);
        }
        roomAgain();
        eachThreadItsOwn();
        clockAtCounting();
        ownedByOthersStays();
        ageIsKept();
        sureIsElder();
        Due.close();
    }

    /** All THREADS are GOING: THREAD t by the one CODE, the others by the other one. */
    private static TransactionCells beside(int t, int way, int[][] code, int[][] other) {
        TransactionCells x = Due.made(way, other, code);
        for (int c = 0; c < 8; c++) x.cell(c, 1, 10 * c);
        for (int u = 0; u < 3; u++) {
            x.code(u, u == t ? 1 : 0);
            x.start(u);
        }
        return x;
    }

    // ---- BARRED

    /** How a STEP ends by which each of these ACTS is done outside, and in a DOING, READING, WAITING, SURE one. */
    private static void barredByKind(int t) {
        int[][] acts = {
            a(BEGIN, DOING), a(BEGIN, SURE), a(END), a(RETRY), a(EITHER, 9), a(NEST, 9), a(TRY, 9), a(OR, 9), a(JOIN), a(DONE),
            a(WRITE, 0, 0), a(LINK, 0, 0), a(VOID, 0), a(READ, 0, 1), a(SET, 0, 1)};
        int[][] want = {
            {FINE, FAILS, FAILS, FAILS, FAILS}, {FINE, FAILS, FAILS, FAILS, FAILS}, {FAILS, FINE, FINE, FINE, FINE},
            {FAILS, FAILS, FAILS, SLEEPS, FAILS}, {FAILS, FAILS, FAILS, FINE, FAILS}, {FAILS, FINE, FINE, FINE, FAILS},
            {FINE, FINE, FINE, FINE, FINE}, {FAILS, FAILS, FAILS, FAILS, FAILS}, {FAILS, FAILS, FAILS, FAILS, FAILS},
            {FAILS, FAILS, FAILS, FAILS, FAILS}, {FINE, FINE, FAILS, FINE, FINE}, {FINE, FINE, FAILS, FINE, FINE},
            {FINE, FINE, FAILS, FINE, FINE}, {FINE, FINE, FINE, FINE, FINE}, {FINE, FINE, FINE, FINE, FINE}};
        for (int way = 0; way < 4; way++) {
            for (int i = 0; i < acts.length; i++) {
                for (int kind = NONE; kind < 4; kind++) {
                    String what = "12: ACT " + acts[i][0] + " in KIND " + kind + ", way " + way;
                    TransactionCells x = Due.going(way, kind == NONE ? Due.code(acts[i]) : Due.behind(kind, acts[i]));
                    if (kind != NONE) x.step(t);
                    due(what, x.step(t), want[i][kind + 1]);
                    due(what + ": FAILURE", x.thread(t, 2), want[i][kind + 1] == FAILS ? BARRED : 0);
                }
            }
        }
    }

    /** Caught by a TRY in the TRANSACTION, so that what is under way is still told. */
    private static void barredDoesNothing(int t) {
        for (int way = 0; way < 4; way++) {
            for (int[] act : new int[][] {a(WRITE, 1, 2), a(LINK, 1, 2), a(VOID, 1)}) {
                TransactionCells x = Due.going(way, Due.behind(READING, a(SET, 2, 5), a(TRY, 8), act));
                Due.steps("12: in a READING one", x, t, 1, 1, 1, 1);
                due("12: BARRED", x.thread(t, 8), BARRED);
                due("12: no LOG", x.told(1, 8 + t), NONE);
                due("12: no LOG", x.told(1, 11 + t), 0);
                due("12: not OWNED", x.told(1, 3), NONE);
                due("12: not written", x.told(1, 1), 10);
                due("12: still READING", x.thread(t, 3), READING);
            }
            TransactionCells x = Due.going(way, Due.behind(DOING, a(TRY, 8), a(BEGIN, SURE)));
            Due.steps("12: BEGIN within one", x, t, 1, 1, 1);
            due("12: BARRED", x.thread(t, 8), BARRED);
            due("12: of its KIND", x.thread(t, 3), DOING);
            due("12: none was begun", x.count(3), 1);
            due("12: no SURE one", x.count(6), NONE);
        }
    }

    /** END while a SCOPE that it began stands, of any sort; one of before does not bar it. */
    private static void barredEnd(int t) {
        for (int sort : new int[] {EITHER, NEST, TRY}) {
            TransactionCells x = Due.going(CLOCK, Due.behind(WAITING, a(WRITE, 1, 0), a(sort, 9), a(END)));
            Due.steps("12: END", x, t, 1, 1, 1, sort == EITHER ? FAILS : 1);
            due("12: BARRED " + sort, sort == EITHER ? x.thread(t, 2) : x.thread(t, 8), BARRED);
            due("12: it does not COUNT", x.count(1), 0);
            TransactionCells y = Due.going(CLOCK, Due.behind(WAITING, a(WRITE, 1, 0), a(sort, 9), a(sort == EITHER ? OR : sort + 1, 4), a(END)));
            Due.steps("12: END behind a SCOPE that is done", y, t, 1, 1, 1, 1, 1, 4);
            due("12: it COUNTS", y.count(1), 1);
        }
        TransactionCells z = Due.going(CLOCK, Due.code(a(TRY, 9), a(BEGIN, SURE), a(TRY, 9), a(DONE), a(END), a(BEGIN, DOING), a(END), a(DONE)));
        Due.steps("12: END within a TRY of before", z, t, 1, 1, 1, 1, 1, 1, 1, 1, 4);
        due("12: both COUNT", z.count(1), 2);
    }

    /** 15, 17, 19, by the innermost SCOPE: its own sort, begun in the same TRANSACTION. */
    private static void barredToClose(int t) {
        int[] sorts = {EITHER, NEST, TRY};
        for (int sort : sorts) {
            for (int other : sorts) {
                int closing = other + 1;
                String what = "12: ACT " + closing + " of a SCOPE by " + sort;
                TransactionCells x = Due.going(CLOCK, Due.behind(WAITING, a(TRY, 20), a(sort, 30), a(closing, 9)));
                Due.steps(what, x, t, 1, 1, 1, 1);
                int r0 = x.thread(t, 8);
                if (sort == other) {
                    due(what, r0, 0);
                    due(what + ": PLACE", x.thread(t, 1), closing == OR ? 9 : 4);
                    due(what + ": SCOPES", x.thread(t, 7), 1);
                } else {
                    due(what, r0, BARRED);
                    due(what + ": its handler, or that of the TRY", x.thread(t, 1), sort == EITHER ? 20 : 30);
                    due(what + ": SCOPES", x.thread(t, 7), sort == EITHER ? 0 : 1);
                }
            }
        }
        // Its own sort stands, but is not the innermost; or stands outside of the TRANSACTION.
        TransactionCells y = Due.going(CLOCK, Due.behind(WAITING, a(NEST, 20), a(TRY, 30), a(JOIN)));
        Due.steps("12: JOIN within a TRY within a NEST", y, t, 1, 1, 1, 1);
        due("12: BARRED", y.thread(t, 8), BARRED);
        due("12: the TRY catches", y.thread(t, 1), 30);
        for (int kind = 0; kind < 4; kind++) {
            TransactionCells z = Due.going(CLOCK, Due.code(a(TRY, 20), a(BEGIN, kind), a(DONE)));
            Due.steps("12: DONE of a TRY of before, KIND " + kind, z, t, 1, 1, 1);
            due("12: BARRED", z.thread(t, 8), BARRED);
            due("12: the TRY itself catches", z.thread(t, 1), 20);
            due("12: outside", z.thread(t, 3), NONE);
            due("12: no SCOPE", z.thread(t, 7), 0);
        }
        TransactionCells v = Due.going(CLOCK, Due.code(a(TRY, 20), a(BEGIN, DOING), a(END), a(DONE), a(DONE)));
        Due.steps("12: DONE outside of any, as the THREAD is; then none is left", v, t, 1, 1, 1, 1, FAILS);
        due("12: BARRED", v.thread(t, 2), BARRED);
        for (int closing : new int[] {OR, JOIN}) {
            TransactionCells w = Due.going(CLOCK, Due.code(a(TRY, 20), a(closing, 9)));
            Due.steps("12: ACT " + closing + " of a TRY outside", w, t, 1, 1);
            due("12: BARRED", w.thread(t, 8), BARRED);
        }
    }

    // ---- four SCOPES at most

    private static void fourScopes(int t) {
        int[] sorts = {EITHER, NEST, TRY};
        for (int fourth : sorts) {
            for (int fifth : sorts) {
                String what = "12: SCOPE " + fifth + " within three and " + fourth;
                TransactionCells x = Due.going(CLOCK, Due.behind(WAITING, a(NEST, 20), a(EITHER, 21), a(TRY, 22), a(fourth, 23), a(fifth, 24)));
                Due.steps(what, x, t, 1, 1, 1, 1, 1);
                due("16: four", x.thread(t, 7), 4);
                due(what, x.step(t), 1);
                due("12: BARRED", x.thread(t, 8), BARRED);
                due("12: caught by the innermost that catches", x.thread(t, 1), fourth == EITHER ? 22 : 23);
                due("16: those that are left", x.thread(t, 7), fourth == EITHER ? 2 : 3);
            }
        }
        TransactionCells y = Due.going(CLOCK, Due.code(a(TRY, 20), a(TRY, 21), a(TRY, 22), a(TRY, 23), a(TRY, 24)));
        Due.steps("12: four outside", y, t, 1, 1, 1, 1);
        due("16: four", y.thread(t, 7), 4);
        Due.steps("12: a fifth outside", y, t, 1);
        due("12: BARRED", y.thread(t, 8), BARRED);
        due("12: by the fourth", y.thread(t, 1), 23);
        // Of each THREAD for itself.
        for (int other = 1; other < 3; other++) {
            Due.steps("12: four of another THREAD", y, (t + other) % 3, 1, 1, 1, 1);
            due("16: four", y.thread((t + other) % 3, 7), 4);
        }
    }

    private static void roomAgain() {
        TransactionCells x = Due.going(CLOCK, Due.code(a(TRY, 20), a(TRY, 21), a(TRY, 22), a(TRY, 23), a(DONE), a(TRY, 24), a(DONE), a(DONE),
            a(DONE), a(DONE), a(DONE)));
        Due.steps("12: one done, and one more", x, 0, 1, 1, 1, 1, 1, 1);
        due("16: four", x.thread(0, 7), 4);
        for (int left = 3; left >= 0; left--) {
            Due.steps("12: DONE", x, 0, 1);
            due("16: SCOPES", x.thread(0, 7), left);
        }
        Due.steps("12: none is left to be done", x, 0, FAILS);
        due("12: BARRED", x.thread(0, 2), BARRED);
        due("16: SCOPES", x.thread(0, 7), 0);
    }

    /** WRITE of r[1] to all CELLS behind a SET of it. */
    private static void addWritings(List<int[]> acts, int v) {
        acts.add(a(SET, 1, v));
        for (int c = 0; c < 8; c++) acts.add(a(WRITE, c, 1));
    }

    /**
     * All three THREADS at once with four SCOPES, a full LOG and another one kept in each NEST: a RETRY to the EITHER,
     * then a FAILURE to the inner NEST, to the outer one, and to the TRY outside. None meets what is another one's.
     */
    private static void eachThreadItsOwn() {
        int[][][] codes = new int[3][][];
        for (int t = 0; t < 3; t++) {
            List<int[]> acts = new ArrayList<>(List.of(a(TRY, 39), a(BEGIN, WAITING)));
            addWritings(acts, 100 + t);
            acts.add(a(NEST, 38));
            addWritings(acts, 200 + t);
            acts.add(a(NEST, 37));
            addWritings(acts, 300 + t);
            acts.addAll(List.of(a(EITHER, 35), a(SET, 1, 400 + t), a(VOID, 7), a(RETRY), a(SET, 2, 5), a(FAIL, 2), a(FAIL, 2), a(FAIL, 2)));
            codes[t] = acts.toArray(new int[0][]);
        }
        for (int first = 0; first < 3; first++) {
            TransactionCells x = Due.going(CLOCK, codes);
            areAll(x, first, 34, 400, 4, 34);
            areAll(x, first, 1, 300, 3, 35);
            areAll(x, first, 2, 200, 2, 37);
            areAll(x, first, 1, 100, 1, 38);
            areAll(x, first, 1, NONE, 0, 39);
        }
    }

    /** So many STEPS of each THREAD in turn, all done; then of each its LOG, or NONE, its SCOPES and its PLACE. */
    private static void areAll(TransactionCells x, int first, int steps, int log, int scopes, int place) {
        due("12: all of them", x.run(first, 3 * steps), 3 * steps);
        for (int t = 0; t < 3; t++) {
            String what = "THREAD " + t + ", LOG " + log;
            due("16: SCOPES of " + what, x.thread(t, 7), scopes);
            due("16: PLACE of " + what, x.thread(t, 1), place);
            due("16: KIND of " + what, x.thread(t, 3), log == NONE ? NONE : WAITING);
            due("16: r[1] of " + what, x.thread(t, 9), log == NONE ? 0 : log + t);
            due("16: no STEP did WAIT, " + what, x.thread(t, 6), 0);
            due("16: none BEGAN ANEW, " + what, x.thread(t, 4), 0);
            for (int c = 0; c < 8; c++) {
                // Only the first of the EITHER makes CELL 7 NOTHING; the VALUES are those of the NEST round it.
                boolean isVoid = log == 400 && c == 7;
                int want = log == 400 ? 300 + t : log + t;
                due("17: sort of CELL " + c + " in " + what, x.told(c, 8 + t), log == NONE ? NONE : isVoid ? 0 : 1);
                due("17: CELL " + c + " in " + what, x.told(c, 11 + t), log == NONE || isVoid ? 0 : want);
            }
        }
    }

    /** They are counted for the THREAD, inside and outside of its TRANSACTION. */
    private static void scopesInsideAndOutside(int t) {
        for (int outside = 0; outside < 5; outside++) {
            int[][] acts = new int[6][];
            for (int i = 0; i < 6; i++) acts[i] = i == outside ? a(BEGIN, DOING) : a(TRY, 30 + i);
            TransactionCells x = Due.going(CLOCK, Due.code(acts));
            for (int i = 0; i < 5; i++) due("12: " + outside + " outside", x.step(t), 1);
            due("16: four", x.thread(t, 7), 4);
            due("12: a fifth", x.step(t), 1);
            due("12: BARRED", x.thread(t, 8), BARRED);
            // All four outside: the TRANSACTION is undone, then the innermost of these catches.
            due("12: by the innermost", x.thread(t, 1), outside == 4 ? 33 : 34);
            due("12: in the TRANSACTION still", x.thread(t, 3), outside == 4 ? NONE : DOING);
        }
    }

    // ---- the CODE's end

    private static void codesEnd(int t) {
        TransactionCells x = Due.going(CLOCK, Due.code());
        Due.steps("12: an empty CODE", x, t, 4, Due.STATE);
        due("12: PLACE", x.thread(t, 1), 0);
        due("12: no FAILURE", x.thread(t, 2), 0);
        due("16: a STEP", x.thread(t, 5), 1);
        TransactionCells y = Due.going(CLOCK, Due.code(a(SET, 0, 1), a(JUMP, 3)));
        Due.steps("12: far behind the CODE's end", y, t, 1, 1, 4);
        due("12: PLACE", y.thread(t, 1), 3);
        for (int way = 0; way < 4; way++) {
            for (int kind = 0; kind < 4; kind++) {
                TransactionCells z = Due.going(way, Due.behind(kind, a(SET, 1, 6), a(READ, 2, 3)));
                Due.steps("12: the CODE's end in KIND " + kind, z, t, 1, 1, 1, FAILS, Due.STATE);
                due("12: INDEX", z.thread(t, 2), INDEX);
                due("12: no TRANSACTION", z.thread(t, 3), NONE);
                due("12: REGISTERS: only a SURE one is not undone", z.thread(t, 9), kind == SURE ? 6 : 0);
                due("12: only a SURE one COUNTS", z.count(1), kind == SURE ? 1 : 0);
                due("12: THE LOCK is free", z.count(5), NONE);
                due("12: no SURE one", z.count(6), NONE);
                due("12: nothing HELD", z.told(3, 4), NONE);
            }
        }
    }

    private static void codesEndInScopes(int t) {
        TransactionCells x = Due.going(CLOCK, Due.code(a(TRY, 2), a(TRY, 3)));
        Due.steps("12: INDEX to the inner, then to the outer one, then ENDED", x, t, 1, 1, 1, 1, 4);
        due("12: r[0]", x.thread(t, 8), INDEX);
        due("12: PLACE of the outer one", x.thread(t, 1), 2);
        due("12: not FAILED by it", x.thread(t, 2), 0);
        TransactionCells y = Due.going(CLOCK, Due.behind(WAITING, a(NEST, 3), a(EITHER, 9)));
        Due.steps("12: INDEX to a NEST by an EITHER", y, t, 1, 1, 1, 1);
        due("12: r[0]", y.thread(t, 8), INDEX);
        due("12: the handler is the CODE's end", y.thread(t, 1), 3);
        Due.steps("12: INDEX again, with no SCOPE", y, t, FAILS);
        due("12: r[0] as at its BEGIN", y.thread(t, 8), 0);
        TransactionCells z = Due.going(CLOCK, Due.code(a(TRY, 4), a(BEGIN, DOING), a(SET, 1, 5), a(WRITE, 1, 1)));
        Due.steps("12: undone, then the TRY of before", z, t, 1, 1, 1, 1, 1);
        due("12: r[0]", z.thread(t, 8), INDEX);
        due("12: outside", z.thread(t, 3), NONE);
        due("12: REGISTERS as at its BEGIN", z.thread(t, 9), 0);
        due("12: not written", z.told(1, 1), 10);
        Due.steps("12: ENDED", z, t, 4);
    }

    // ---- FAILURES

    private static void noScopeIsLeft(int t) {
        TransactionCells x = Due.going(CLOCK, Due.code(a(SET, 2, 3), a(TRY, 3), a(FAIL, 2), a(BEGIN, DOING), a(SET, 1, 4), a(TRY, 6), a(FAIL, 1)));
        Due.steps("12: caught once, then once inside, then by none", x, t, 1, 1, 1, 1, 1, 1, 1, FAILS, Due.STATE);
        due("16: FAILED", x.thread(t, 0), 3);
        due("16: by 14", x.thread(t, 2), 14);
        due("16: no TRANSACTION", x.thread(t, 3), NONE);
        due("16: no SCOPE", x.thread(t, 7), 0);
        due("12: r[0] as at its BEGIN", x.thread(t, 8), 13);
        due("12: r[1] as at its BEGIN", x.thread(t, 9), 0);
        due("16: STEPS", x.thread(t, 5), 8);
        due("18: COUNTED", x.count(1), 0);
        due("12: another one still goes", x.step((t + 1) % 3), 1);
        // Outside, r[0] is not f where nothing catches.
        TransactionCells y = Due.going(CLOCK, Due.code(a(SET, 0, 5), a(FAIL, 0)));
        Due.steps("12", y, t, 1, FAILS);
        due("12: r[0] stays", y.thread(t, 8), 5);
        due("12: FAILURE", y.thread(t, 2), 15);
    }

    private static void eitherIsJustGone(int t) {
        TransactionCells x = Due.going(CLOCK, Due.behind(WAITING, a(NEST, 20), a(SET, 1, 4), a(EITHER, 21), a(EITHER, 22), a(SET, 1, 5), a(FAIL, 1)));
        Due.steps("12: a NEST round two EITHERS", x, t, 1, 1, 1, 1, 1, 1, 1);
        due("12: r[0]", x.thread(t, 8), 15);
        due("12: REGISTERS as at the NEST", x.thread(t, 9), 0);
        due("12: its handler", x.thread(t, 1), 20);
        due("12: no SCOPE", x.thread(t, 7), 0);
        TransactionCells y = Due.going(CLOCK, Due.behind(WAITING, a(EITHER, 21), a(SET, 1, 5), a(FAIL, 1)));
        Due.steps("12: an EITHER alone", y, t, 1, 1, 1, FAILS);
        due("12: undone", y.thread(t, 9), 0);
    }

    /** r[0] is brought back, too, and then f; READS stay, and what was OWNED since. */
    private static void nestBringsBack(int t) {
        TransactionCells x = Due.going(EAGER, Due.behind(DOING, a(SET, 0, 4), a(SET, 3, 6), a(WRITE, 0, 0), a(NEST, 20), a(SET, 3, 7), a(VOID, 0),
            a(WRITE, 1, 3), a(READ, 2, 5), a(FAIL, 3)));
        for (int i = 0; i < 10; i++) due("12: in a NEST", x.step(t), 1);
        due("12: f", x.thread(t, 8), 17);
        due("12: r[2] as at it", x.thread(t, 10), 0);
        due("12: r[3] as at it", x.thread(t, 11), 6);
        due("12: LOG as at it, sort", x.told(0, 8 + t), 1);
        due("12: LOG as at it", x.told(0, 11 + t), 4);
        due("12: not in the LOG", x.told(1, 8 + t), NONE);
        due("12: not in the LOG", x.told(1, 11 + t), 0);
        due("12: READS stay", x.told(5, 5 + t), 0);
        due("12: OWNED stays", x.told(1, 3), t);
    }

    private static void retryToEither(int t) {
        TransactionCells x = Due.going(CLOCK, Due.behind(WAITING, a(EITHER, 20), a(NEST, 30), a(TRY, 31), a(WRITE, 1, 0), a(READ, 2, 5), a(RETRY)));
        for (int i = 0; i < 7; i++) due("12: RETRY within an EITHER", x.step(t), 1);
        due("12: its second", x.thread(t, 1), 20);
        due("12: it and all within it are gone", x.thread(t, 7), 0);
        due("12: REGISTERS as at it", x.thread(t, 10), 0);
        due("12: LOG as at it", x.told(1, 8 + t), NONE);
        due("12: READS stay", x.told(5, 5 + t), 0);
        due("16: GOING", x.thread(t, 0), 1);
        due("16: not ANEW", x.thread(t, 4), 0);
        // None is under way any more: it sleeps, with SCOPES that are no EITHER.
        TransactionCells y = Due.going(CLOCK, Due.behind(WAITING, a(NEST, 30), a(EITHER, 20), a(OR, 4), a(SET, 1, 8), a(RETRY)));
        Due.steps("12: the first is done", y, t, 1, 1, 1, 1, 1, SLEEPS);
        due("16: ASLEEP", y.thread(t, 0), 4);
        due("16: KIND", y.thread(t, 3), WAITING);
        due("16: REGISTERS stay", y.thread(t, 9), 8);
        // READS are other by now, but an EITHER stands: its second all the same.
        TransactionCells z = beside(t, CLOCK, Due.behind(WAITING, a(EITHER, 20), a(READ, 0, 1), a(RETRY)), Due.code(a(WRITE, 1, 0)));
        Due.steps("12", z, t, 1, 1, 1);
        Due.steps("12", z, (t + 1) % 3, 1);
        Due.steps("12: the second, not ANEW", z, t, 1);
        due("12: the second", z.thread(t, 1), 20);
    }

    // ---- what COUNTS

    private static void clockAtCounting() {
        for (int way = 0; way < 4; way++) {
            int[][] all = new int[10][];
            all[0] = a(BEGIN, DOING);
            for (int c = 0; c < 8; c++) all[1 + c] = a(VOID, c);
            all[9] = a(END);
            TransactionCells x = Due.going(way, all, Due.behind(DOING, a(READ, 0, 0), a(END), a(READ, 1, 1)));
            Due.steps("12: nothing in the LOG", x, 1, 1, 1, 1);
            due("12: the CLOCK stays", x.count(0), 0);
            due("12: it COUNTS", x.count(1), 1);
            Due.steps("12: all CELLS", x, 0, 1, 1, 1, 1, 1, 1, 1, 1, 1, 1, 4);
            due("12: the CLOCK is one more", x.count(0), 1);
            for (int c = 0; c < 8; c++) {
                due("12: VERSION of " + c, x.told(c, 2), 1);
                due("12: VALUE of " + c, x.told(c, 0), 0);
            }
            Due.steps("12: NULL", x, 1, FAILS);
            due("21: right", x.check(), NONE);
            // The same VALUE once more is a new one all the same.
            TransactionCells y = Due.going(way, Due.code(a(WRITE, 0, 0), a(WRITE, 0, 0), a(BEGIN, SURE), a(WRITE, 0, 0), a(END)));
            Due.steps("12: 0 to a CELL of 0", y, 0, 1, 1, 1, 1, 1, 4);
            due("12: VERSION", y.told(0, 2), 3);
            due("12: CLOCK", y.count(0), 3);
        }
    }

    private static void nothingOwned(int t) {
        for (int way = 0; way < 4; way++) {
            for (int kind : new int[] {DOING, WAITING, SURE}) {
                for (int[] last : new int[][] {a(END), a(FAIL, 0), a(RETRY)}) {
                    if (last[0] == RETRY && kind != WAITING) continue;
                    TransactionCells x = Due.going(way, Due.behind(kind, a(READ, 2, 3), a(WRITE, 0, 0), a(VOID, 7), last));
                    Due.steps("12: way " + way + ", KIND " + kind, x, t, 1, 1, 1, 1);
                    due("17: OWNED by EAGER alone", x.told(0, 3), way == EAGER ? t : NONE);
                    due("17: OWNED by EAGER alone", x.told(7, 3), way == EAGER ? t : NONE);
                    due("17: reading OWNS nothing", x.told(3, 3), NONE);
                    boolean holds = kind == SURE && way != COARSE;
                    for (int c : new int[] {0, 3, 7}) due("17: HELD by SURE ones alone", x.told(c, 4), holds ? t : NONE);
                    due("18: THE LOCK by COARSE alone", x.count(5), way == COARSE ? t : NONE);
                    due("18: SURE", x.count(6), kind == SURE ? t : NONE);
                    x.step(t);
                    for (int c = 0; c < 8; c++) {
                        due("17: nothing is OWNED behind " + last[0], x.told(c, 3), NONE);
                        due("17: nothing is HELD behind " + last[0], x.told(c, 4), NONE);
                        due("17: LOG is empty behind " + last[0], x.told(c, 8 + t) + x.told(c, 11 + t), NONE);
                        due("17: READS behind " + last[0], x.told(c, 5 + t), last[0] == RETRY && c == 3 ? 0 : NONE);
                    }
                    due("18: THE LOCK is free behind " + last[0], x.count(5), NONE);
                    due("18: no SURE one behind " + last[0], x.count(6), NONE);
                }
            }
        }
    }

    /** What another THREAD OWNS or HOLDS stays so, whatever becomes of this one. */
    private static void ownedByOthersStays() {
        for (int[] last : new int[][] {a(END), a(FAIL, 0), a(RETRY)}) {
            TransactionCells x = Due.going(EAGER, Due.behind(DOING, a(WRITE, 0, 0), a(END)), Due.behind(WAITING, a(WRITE, 1, 0), a(READ, 2, 2), last),
                Due.behind(SURE, a(WRITE, 7, 0), a(READ, 0, 6), a(END)));
            Due.steps("12", x, 0, 1, 1);
            Due.steps("12", x, 2, 1, 1, 1);
            Due.steps("12", x, 1, 1, 1, 1);
            x.step(1);
            due("17: OWNED by 0 behind " + last[0], x.told(0, 3), 0);
            due("17: OWNED by 1 behind " + last[0], x.told(1, 3), NONE);
            due("17: OWNED by 2 behind " + last[0], x.told(7, 3), 2);
            due("17: HELD by 2 behind " + last[0], x.told(7, 4), 2);
            due("17: HELD by 2 behind " + last[0], x.told(6, 4), 2);
            due("18: SURE behind " + last[0], x.count(6), 2);
            due("17: LOG of 0 behind " + last[0], x.told(0, 8), 1);
            Due.steps("12: the others go on", x, 0, 1, 4);
            Due.steps("12: the others go on", x, 2, 1, 4);
        }
        // One that BEGINS ANEW: only what it OWNS is free.
        TransactionCells y = Due.going(EAGER, Due.behind(DOING, a(READ, 0, 5), a(WRITE, 0, 0), a(END)), Due.behind(DOING, a(WRITE, 1, 0), a(END)),
            Due.code(a(WRITE, 5, 1)));
        Due.steps("12", y, 0, 1, 1, 1);
        Due.steps("12", y, 1, 1, 1);
        Due.steps("12", y, 2, 1);
        Due.steps("12: ANEW", y, 0, 2);
        due("17: not OWNED any more", y.told(0, 3), NONE);
        due("17: OWNED by 1", y.told(1, 3), 1);
    }

    // ---- AGES

    /** Numbered as they BEGIN first; WRITINGS outside have one, too; one that BEGINS ANEW keeps its own. */
    private static void ageIsKept() {
        int[][] writer = Due.behind(DOING, a(READ, 2, 7), a(WRITE, 0, 0), a(END));
        TransactionCells x = Due.going(EAGER, writer, writer, Due.code(a(WRITE, 7, 1), a(BEGIN, DOING), a(WRITE, 0, 0), a(END)));
        Due.steps("12: begun first", x, 1, 1, 1);
        Due.steps("12: one of its own", x, 2, 1);
        Due.steps("12: begun last", x, 0, 1, 1, 1);
        due("18: begun ever", x.count(3), 3);
        due("17: OWNED by the youngest", x.told(0, 3), 0);
        Due.steps("12: the elder one takes it", x, 1, 1);
        due("17: OWNED by the elder", x.told(0, 3), 1);
        due("16: the younger one BEGAN ANEW", x.thread(0, 4), 1);
        Due.steps("12: its READS are other", x, 1, 2);
        due("16: it BEGAN ANEW, too", x.thread(1, 4), 1);
        Due.steps("12: the younger one again", x, 0, 1, 1);
        due("17: OWNED by the younger", x.told(0, 3), 0);
        Due.steps("12: it is the elder still", x, 1, 1, 1);
        due("17: OWNED by the elder", x.told(0, 3), 1);
        due("16: BEGAN ANEW twice", x.thread(0, 4), 2);
        Due.steps("12: the youngest of all", x, 2, 1, 0);
        due("18: begun ever: ANEW is none more", x.count(3), 4);
        due("18: BEGAN ANEW", x.count(4), 3);
    }

    private static void sureIsElder() {
        int[][] doing = Due.behind(DOING, a(WRITE, 0, 0), a(END));
        for (int[] act : new int[][] {a(READ, 1, 0), a(WRITE, 0, 1), a(LINK, 0, 0), a(VOID, 0)}) {
            TransactionCells x = Due.going(EAGER, doing, Due.behind(SURE, act, a(END)));
            Due.steps("12: elder by AGE", x, 0, 1, 1);
            Due.steps("12: SURE is ELDER than all others", x, 1, 1, 1);
            due("16: BEGAN ANEW", x.thread(0, 4), 1);
            due("16: SURE never does", x.thread(1, 4), 0);
            due("17: OWNED", x.told(0, 3), act[0] == READ ? NONE : 1);
            due("17: HELD", x.told(0, 4), 1);
            Due.steps("12: HELD", x, 0, 0);
            Due.steps("12: END", x, 1, 1, 4);
            Due.steps("12: then it goes on", x, 0, 1, 1, 4);
        }
    }
}
