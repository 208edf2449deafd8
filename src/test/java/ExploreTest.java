/** Promises 14 and 15: explore() and its ENDS. */
public final class ExploreTest {
    private static final int SET = Due.SET, READ = Due.READ, WRITE = Due.WRITE, JUMP = Due.JUMP, FAIL = Due.FAIL;
    private static final int BEGIN = Due.BEGIN, END = Due.END, RETRY = Due.RETRY, IF_NONE = Due.IF_NONE;
    private static final int VOID = Due.VOID, TRY = Due.TRY, DONE = Due.DONE, ADD = Due.ADD;
    private static final int DOING = Due.DOING, WAITING = Due.WAITING, SURE = Due.SURE;

    private static void due(String what, long got, long want) {
        Due.due(what, got, want);
    }

    private static int[] a(int... act) {
        return act;
    }

    public static void main(String[] args) {
        refusals();
        cost();
        bounds();
        circles();
        likeHouses();
        triesKeepNothing();
        numbersApart();
        eager();
        elder();
        asItIs();
        ends();
        endsUnlike();
        endsStay();
        standings();
        sureOnesAndAll();
        Due.close();
    }

    /** THREADS with one SET each: three ways for each of them to stand, and none meets another. */
    private static TransactionCells apart(int threads) {
        TransactionCells x = Due.made(Due.CLOCK, Due.code(a(SET, 0, 1)));
        for (int t = 0; t < threads; t++) x.start(t);
        return x;
    }

    private static void refusals() {
        TransactionCells x = apart(1);
        due("14: 0", x.explore(0), Due.OUTSIDE);
        due("14: -1", x.explore(-1), Due.OUTSIDE);
        due("14: 401", x.explore(401), Due.OUTSIDE);
        due("14: far", x.explore(Integer.MIN_VALUE), Due.OUTSIDE);
        due("15: no explore() yet", x.end(-1, 0), Due.UNKNOWN);
        due("15: no explore() yet", x.end(0, 0), Due.UNKNOWN);
        due("14: too few", x.explore(1), -2);
        due("15: none that met all", x.end(-1, 0), Due.UNKNOWN);
        due("14: 3", x.explore(3), 3);
        due("15: one", x.end(-1, 0), 1);
        due("15: END 1", x.end(1, 0), Due.UNKNOWN);
        due("15: END -2", x.end(-2, 0), Due.UNKNOWN);
        due("15: what -1", x.end(0, -1), Due.OUTSIDE);
        due("15: what 19", x.end(0, 19), Due.OUTSIDE);
        due("15: UNKNOWN before OUTSIDE", x.end(1, 19), Due.UNKNOWN);
    }

    private static void cost() {
        TransactionCells x = apart(1);
        for (int i = 0; i < 9; i++) due("14: 400 of 4000", x.explore(400), 3);
        x.explore(401);
        due("14: OUTSIDE costs nothing", x.explore(397), 3);
        due("14: 3 are left", x.explore(4), Due.STATE);
        due("14: OUTSIDE before STATE", x.explore(401), Due.OUTSIDE);
        x.keep();
        due("14: also what meets too many has its cost", x.explore(2), -3);
        x.back();
        due("14: back() brings none back", x.explore(2), Due.STATE);
        x.reset();
        due("14: nor does reset()", x.explore(2), Due.STATE);
        due("14: the last one", x.explore(1), 1);
        due("14: none is left", x.explore(1), Due.STATE);
    }

    private static void bounds() {
        int[] houses = {1, 3, 9, 27};
        for (int threads = 0; threads < 4; threads++) {
            int all = houses[threads];
            due("14: " + threads + " THREADS", apart(threads).explore(400), all);
            due("14: just enough", apart(threads).explore(all), all);
            if (all > 1) due("14: one too few", apart(threads).explore(all - 1), -all);
        }
    }

    private static void circles() {
        TransactionCells x = Due.made(Due.CLOCK, Due.code(a(JUMP, 0)));
        x.start(0);
        due("14: a circle of one", x.explore(5), 1);
        due("15: no END: a STEP is done", x.end(-1, 0), 0);
        due("15: no END", x.end(0, 0), Due.UNKNOWN);
        TransactionCells y = Due.made(Due.CLOCK, Due.code(a(SET, 0, 1), a(ADD, 1, 0), a(JUMP, 1)));
        y.start(0);
        due("14: without an end", y.explore(400), -401);
    }

    private static void likeHouses() {
        // Two WRITINGS of two CELLS: which was first is seen in their VERSIONS.
        TransactionCells x = Due.made(Due.CLOCK, Due.code(a(WRITE, 0, 0)), Due.code(a(WRITE, 1, 0)));
        x.start(0);
        x.start(1);
        due("14: VERSIONS", x.explore(400), 5 + 2 * 4);
        due("15: VERSIONS are not looked at", x.end(-1, 0), 1);
        // The same VALUE to the same CELL, by either: older VALUES with VERSIONS are like.
        TransactionCells y = Due.made(Due.CLOCK, Due.code(a(WRITE, 0, 0)), Due.code(a(WRITE, 0, 0)));
        y.start(0);
        y.start(1);
        due("14: no matter by which THREAD", y.explore(400), 9);
        // One of them has another VALUE: the present one and the older ones change places.
        TransactionCells z = Due.made(Due.CLOCK, Due.code(a(WRITE, 0, 0)), Due.code(a(SET, 0, 4), a(WRITE, 0, 0)));
        z.start(0);
        z.start(1);
        due("14: older VALUES", z.explore(400), 12 + 4);
        due("15: two ENDS", z.end(-1, 0), 2);
        // A TRY that is done leaves nothing behind.
        TransactionCells v = Due.made(Due.CLOCK, Due.code(a(TRY, 3), a(DONE), a(JUMP, 0)));
        v.start(0);
        due("14: SCOPES that are gone", v.explore(400), 3);
        due("15: no END", v.end(-1, 0), 0);
        // READS and a LOG that are gone leave nothing behind either.
        TransactionCells w = Due.made(Due.COARSE, Due.code(a(BEGIN, DOING), a(READ, 0, 0), a(END), a(JUMP, 0)));
        w.cell(0, 1, 0);
        w.start(0);
        due("14: TRANSACTIONS that are gone", w.explore(400), 4);
    }

    /** THREAD 0 reads before or after THREAD 1 writes; with the REGISTER cleared that is gone, TRY or not. */
    private static void triesKeepNothing() {
        TransactionCells x = Due.made(Due.CLOCK, Due.code(a(READ, 1, 0), a(TRY, 9), a(SET, 1, 0)), Due.code(a(WRITE, 0, 0)));
        x.cell(0, 1, 1);
        x.start(0);
        x.start(1);
        due("14: a TRY brings nothing back", x.explore(400), 6 + 8 + 8);
    }

    /**
     * Houses that differ in two REGISTERS of a THREAD alone, from (one, other) to (0, v): none of them is taken for
     * another one, whatever is reckoned of its numbers (31 times the one and the other: the same sum).
     */
    private static void numbersApart() {
        for (int r = 0; r < 3; r++) {
            for (int[] numbers : new int[][] {{1, 31}, {-1, -31}, {2, 62}, {1, 30}, {1, 32}, {1, 33}, {1, 37}, {1, -31}, {1, 1}, {1 << 16, 1}}) {
                TransactionCells x = Due.made(Due.CLOCK, Due.code(a(READ, r, 0), a(IF_NONE, r, 3), a(JUMP, 4), a(SET, r + 1, numbers[1])),
                    Due.code(a(WRITE, 0, 0)));
                x.cell(0, 1, numbers[0]);
                x.start(0);
                x.start(1);
                // Not written; written and THREAD 1 GOING or ENDED: THREAD 0 at its five PLACES and ENDED, by what it read.
                int unwritten = 5;
                int written = 5 + 4;
                due("14: REGISTERS " + r + " of " + numbers[0] + " and 0, or of 0 and " + numbers[1], x.explore(400), unwritten + 2 * written);
                due("15: how THREADS stand, not REGISTERS", x.end(-1, 0), 1);
            }
        }
    }

    /** The ELDER one goes on from every house, so that each circle of the two has an end. */
    private static void eager() {
        TransactionCells x = Due.made(Due.EAGER, Due.code(a(BEGIN, DOING), a(READ, 0, 0), a(SET, 1, 1), a(ADD, 0, 1), a(WRITE, 0, 0), a(END)));
        x.cell(0, 1, 5);
        x.start(0);
        x.start(1);
        due("14: EAGER", x.explore(400), 111);
        due("15: one END", x.end(-1, 0), 1);
        due("15: both", x.end(0, 8), 7);
        due("15: ENDED", x.end(0, 16) + x.end(0, 17), 4);
    }

    private static void elder() {
        TransactionCells x = Due.made(Due.CLOCK, Due.code(a(BEGIN, DOING), a(END)));
        x.start(0);
        due("14: one", x.explore(400), 4);
        x.start(1);
        due("14: which of two is ELDER", x.explore(400), 16 + 1);
        x.start(2);
        due("14: which of three are ELDER", x.explore(400), 64 + 3 * 3 + (6 - 1));
        x.run(0, 2);
        due("14: from the midst", x.explore(400), 3 * 3 * 4);
    }

    private static void asItIs() {
        for (int way = 0; way < 4; way++) {
            TransactionCells x = Due.made(way, Due.code(a(BEGIN, DOING), a(READ, 0, 0), a(SET, 1, 1), a(ADD, 0, 1), a(WRITE, 0, 0), a(END)));
            x.cell(0, 1, 3);
            x.start(0);
            x.start(1);
            x.run(0, 7);
            long digest = x.digest();
            int check = x.check();
            x.keep();
            int many = x.explore(400);
            due("14: all, way " + way, many > 5 ? 1 : 0, 1);
            due("14: the house stays, way " + way, x.digest(), digest);
            due("14: THE ORDER stays", x.check(), check);
            due("14: again", x.explore(400), many);
            due("14: too few", x.explore(5), -6);
            due("14: the house stays, way " + way, x.digest(), digest);
            due("15: VALUE", x.end(0, 8), 5);
            int done = x.run(0, 200);
            due("14: THE ORDER goes on", x.count(1), 2);
            due("21: right", x.check(), Due.NONE);
            x.back();
            due("14: as it was", x.run(0, 200), done);
        }
    }

    private static void ends() {
        TransactionCells x = Due.made(Due.CLOCK, Due.code(a(SET, 0, 1), a(WRITE, 0, 0)), Due.code(a(SET, 0, 2), a(WRITE, 0, 0)));
        x.cell(5, 2, 3);
        x.start(0);
        x.start(1);
        x.explore(400);
        due("15: who writes last", x.end(-1, 0), 2);
        due("15: also with what is no matter", x.end(-1, 99), 2);
        due("15: THREAD 0 went first", x.end(0, 8), 2);
        due("15: THREAD 1 went first", x.end(1, 8), 1);
        for (int i = 0; i < 2; i++) {
            due("15: sort", x.end(i, 0), 1);
            due("15: sort of a ROW", x.end(i, 5), 2);
            due("15: the ROW", x.end(i, 13), 3);
            due("15: NOTHING", x.end(i, 7) + x.end(i, 15), 0);
            due("15: ENDED", x.end(i, 16), 2);
            due("15: ENDED", x.end(i, 17), 2);
            due("15: not STARTED", x.end(i, 18), 0);
        }
    }

    private static void endsUnlike() {
        TransactionCells x = Due.made(Due.CLOCK, Due.code(a(VOID, 0)), Due.code(a(WRITE, 0, 0)));
        x.start(0);
        x.start(1);
        x.explore(400);
        due("15: NOTHING and NUMBER 0 are two", x.end(-1, 0), 2);
        due("15: sorts", x.end(0, 0), 1);
        due("15: sorts", x.end(1, 0), 0);
        // By who is FAILED alone: THREAD 0 FAILS if it reads first.
        TransactionCells y = Due.made(Due.CLOCK, Due.code(a(READ, 0, 0)), Due.code(a(WRITE, 0, 0)));
        y.start(0);
        y.start(1);
        y.explore(400);
        due("15: how THREADS stand", y.end(-1, 0), 2);
        due("15: FAILED", y.end(0, 16), 3);
        due("15: ENDED", y.end(1, 16), 2);
    }

    private static void endsStay() {
        TransactionCells x = apart(2);
        x.explore(400);
        due("15: one END", x.end(-1, 0), 1);
        x.start(2);
        due("14: too many", x.explore(20), -21);
        due("15: of the latest that met all", x.end(0, 18), 0);
        x.keep();
        x.explore(30);
        due("15: of the latest", x.end(0, 18), 2);
        x.back();
        due("15: back() leaves it", x.end(0, 18), 2);
        x.reset();
        due("15: reset() leaves it", x.end(0, 18), 2);
        x.explore(1);
        due("15: the house alone is an END", x.end(0, 16), 0);
    }

    private static void standings() {
        int[][] sleeper = Due.code(a(BEGIN, WAITING), a(READ, 0, 0), a(IF_NONE, 0, 4), a(END), a(RETRY));
        TransactionCells x = Due.made(Due.CLOCK, sleeper, Due.code(a(FAIL, 0)));
        x.cell(0, 1, 0);
        x.start(0);
        x.start(1);
        due("14: ASLEEP is an END", x.explore(400), 5 * 2);
        due("15: one", x.end(-1, 0), 1);
        due("15: ASLEEP", x.end(0, 16), 4);
        due("15: FAILED", x.end(0, 17), 3);
        // In every way that the STEPS take, the sleeper is woken.
        TransactionCells y = Due.made(Due.CLOCK, sleeper, Due.code(a(SET, 0, 9), a(WRITE, 0, 0)));
        y.cell(0, 1, 0);
        y.start(0);
        y.start(1);
        y.explore(400);
        due("15: one", y.end(-1, 0), 1);
        due("15: FAILED behind its END", y.end(0, 16), 3);
        due("15: VALUE", y.end(0, 8), 9);
    }

    /** A SURE one and a DOING one never lose what the other did; nothing hangs. */
    private static void sureOnesAndAll() {
        for (int way = 0; way < 4; way++) {
            int[][] codes = Due.code(a(BEGIN, SURE), a(READ, 0, 0), a(SET, 1, 1), a(ADD, 0, 1), a(WRITE, 0, 0), a(END));
            int[][] doing = Due.code(a(BEGIN, DOING), a(READ, 0, 0), a(SET, 1, 2), a(ADD, 0, 1), a(WRITE, 0, 0), a(END));
            TransactionCells x = Due.made(way, codes, doing);
            x.cell(0, 1, 10);
            x.start(0);
            x.start(1);
            due("14: met all, way " + way, x.explore(400) > 0 ? 1 : 0, 1);
            due("15: one END, way " + way, x.end(-1, 0), 1);
            due("15: both, way " + way, x.end(0, 8), 13);
            due("15: ENDED", x.end(0, 16) + x.end(0, 17), 4);
        }
    }
}
