/** Counts the answers that are not the one due; the tests of the project share it. */
final class Due {
    static final int NONE = -1, UNKNOWN = -101, OUTSIDE = -102, STATE = -103, FULL = -104, SIZE = -15;
    // Kinds of ACTS.
    static final int SET = 0, ADD = 1, LESS = 2, PART = 3, READ = 4, WRITE = 5, LINK = 6, VOID = 7, ITEM = 8;
    static final int JUMP = 9, IF_NONE = 10, BEGIN = 11, END = 12, RETRY = 13, EITHER = 14, OR = 15, NEST = 16;
    static final int JOIN = 17, TRY = 18, DONE = 19, FAIL = 20, BELOW = 21;
    // KINDS of TRANSACTIONS, and WAYS.
    static final int DOING = 0, READING = 1, WAITING = 2, SURE = 3;
    static final int CLOCK = 0, EAGER = 1, PICTURE = 2, COARSE = 3;

    private static int wrong = 0;
    private static int right = 0;

    private Due() {
    }

    static void due(String what, long got, long want) {
        if (got == want) {
            right++;
            return;
        }
        wrong++;
        System.out.println(what + ": answered " + got + ", due is " + want);
    }

    /** An object whose CODE i has the ACTS of codes[i], each of them: kind, a, b, c, as many as it names. */
    static TransactionCells made(int way, int[][]... codes) {
        TransactionCells x = new TransactionCells();
        x.way(way);
        for (int code = 0; code < codes.length; code++) {
            for (int[] act : codes[code]) {
                int place = x.act(code, act[0], at(act, 1), at(act, 2), at(act, 3));
                if (place < 0) due("act of code " + code, place, 0);
            }
        }
        for (int t = 0; t < 3; t++) x.code(t, Math.min(t, codes.length - 1));
        return x;
    }

    /** CELLS 0 to 7 are 0, 10, 20 ..; all THREADS are GOING, each by its CODE or by the last one. */
    static TransactionCells going(int way, int[][]... codes) {
        TransactionCells x = made(way, codes);
        for (int c = 0; c < 8; c++) x.cell(c, 1, 10 * c);
        for (int t = 0; t < 3; t++) x.start(t);
        return x;
    }

    /** A CODE of these ACTS behind a BEGIN. */
    static int[][] behind(int kind, int[]... acts) {
        int[][] all = new int[acts.length + 1][];
        all[0] = a(BEGIN, kind);
        System.arraycopy(acts, 0, all, 1, acts.length);
        return all;
    }

    static int[] a(int... act) {
        return act;
    }

    static int[][] code(int[]... acts) {
        return acts;
    }

    private static int at(int[] act, int i) {
        return i < act.length ? act[i] : 0;
    }

    /** STEPS of one THREAD, one answer due for each. */
    static void steps(String what, TransactionCells x, int t, int... want) {
        for (int i = 0; i < want.length; i++) due(what + ": step " + i + " of thread " + t, x.step(t), want[i]);
    }

    static void close() {
        System.out.println(right + " answers as due, " + wrong + " not");
        if (wrong != 0 || right == 0) System.exit(1);
    }
}
