import java.util.ArrayList;
import java.util.List;

/**
 * Terms 4, and each refusal that promises 2 to 23 name: alone, where two of them hold, and that it changes
 * nothing: the object has the same Portrait as its twin, on which the refused call was not done.
 */
public final class RefusalsTest {
    private static final int NONE = Due.NONE, UNKNOWN = Due.UNKNOWN, OUTSIDE = Due.OUTSIDE;
    private static final int STATE = Due.STATE, FULL = Due.FULL, SIZE = Due.SIZE;
    private static final int MIN = Integer.MIN_VALUE, MAX = Integer.MAX_VALUE;
    private static final int SET = Due.SET, READ = Due.READ, WRITE = Due.WRITE, BEGIN = Due.BEGIN, END = Due.END;
    private static final int RETRY = Due.RETRY, FAIL = Due.FAIL, IF_NONE = Due.IF_NONE, TRY = Due.TRY, ITEM = Due.ITEM;
    private static final int JUMP = Due.JUMP, KINDS = 22;

    private interface Call {
        long on(TransactionCells x);
    }

    private interface House {
        TransactionCells made();
    }

    /** Calls to be refused on one sort of house, all on one object, before its portrait is taken. */
    private static final class Refused {
        private final String name;
        private final House house;
        private final List<Call> calls = new ArrayList<>();

        Refused(String name, House house) {
            this.name = name;
            this.house = house;
        }

        void due(String what, long want, Call call) {
            calls.add(call);
            List<String> twin = Portrait.of(house.made());
            TransactionCells x = house.made();
            Due.due(what + ", " + name, call.on(x), want);
            String unlike = Portrait.unlike(Portrait.of(x), twin);
            Due.due(what + ", " + name + ", changes nothing " + unlike, unlike.length(), 0);
        }

        /** All of them once more, one behind the other. */
        void close() {
            TransactionCells x = house.made();
            for (Call call : calls) call.on(x);
            String unlike = Portrait.unlike(Portrait.of(x), Portrait.of(house.made()));
            Due.due("all refused ones, " + name + ", change nothing " + unlike, unlike.length(), 0);
        }
    }

    public static void main(String[] args) {
        Due.due("4: NONE", TransactionCells.NONE, -1);
        Due.due("4: UNKNOWN", TransactionCells.UNKNOWN, -101);
        Due.due("4: OUTSIDE", TransactionCells.OUTSIDE, -102);
        Due.due("4: STATE", TransactionCells.STATE, -103);
        Due.due("4: FULL", TransactionCells.FULL, -104);
        Due.due("4: SIZE is answered as -15", TransactionCells.SIZE, -15);
        act();
        row();
        item();
        tear();
        cell();
        way();
        code();
        start();
        stepAndRun();
        explore();
        end();
        whatIsTold();
        orderAndForge();
        nothingYet();
        someThreadStands();
        checkAndBack();
        Due.close();
    }

    // ---- houses

    /** No THREAD is STARTED; something is in each CODE, ROW and CELL, something was kept, explored and counted. */
    private static TransactionCells idle() {
        TransactionCells x = new TransactionCells();
        add(x, 0, Due.code(a(BEGIN, Due.WAITING), a(READ, 0, 0), a(IF_NONE, 0, 4), a(END), a(RETRY)));
        add(x, 1, Due.code(a(BEGIN, Due.DOING), a(READ, 1, 1), a(ITEM, 2, 2, 3), a(WRITE, 3, 1), a(END), a(WRITE, 4, 2)));
        add(x, 2, Due.code(a(SET, 3, 5), a(TRY, 3), a(SET, 2, 6), a(FAIL, 3)));
        add(x, 3, Due.code(a(WRITE, 6, 1), a(SET, 1, 3), a(WRITE, 6, 1)));
        for (int i = 0; i < 40; i++) x.act(5, SET, i % 4, 100 + i, 0);
        x.row(0, 3, 3);
        x.item(0, 0, 11);
        x.item(0, 2, -12);
        x.row(1, 1, 2);
        x.item(1, 1, 127);
        x.row(5, 4, 0);
        x.cell(0, 1, 0);
        x.cell(1, 1, 7);
        x.cell(2, 2, 0);
        x.cell(7, 0, 0);
        x.way(1);
        x.code(0, 3);
        x.start(0);
        x.run(0, 9);
        x.explore(100);
        x.keep();
        x.reset();
        x.way(2);
        x.code(0, 0);
        x.code(1, 1);
        x.code(2, 2);
        return x;
    }

    /** THREAD 0 is ASLEEP, 1 in a TRANSACTION behind others that COUNTED, 2 is FAILED. */
    private static TransactionCells busy() {
        TransactionCells x = idle();
        x.act(1, JUMP, 0, 0, 0);
        for (int t = 0; t < 3; t++) x.start(t);
        x.run(0, 12);
        x.run(1, 14);
        return x;
    }

    /** One THREAD stands so: 1 GOING, 2 ENDED, 3 FAILED, 4 ASLEEP; the others are not STARTED. */
    private static TransactionCells standing(int t, int stands) {
        TransactionCells x = idle();
        add(x, 4, Due.code(a(FAIL, 0)));
        x.code(t, new int[] {0, 3, 3, 4, 0}[stands]);
        x.start(t);
        if (stands > 1) x.run(t, 5);
        return x;
    }

    private static void add(TransactionCells x, int code, int[][] acts) {
        for (int[] act : acts) {
            x.act(code, act[0], act.length > 1 ? act[1] : 0, act.length > 2 ? act[2] : 0, act.length > 3 ? act[3] : 0);
        }
    }

    private static int[] a(int... act) {
        return act;
    }

    // ---- promises 2 to 15

    private static void act() {
        Refused r = new Refused("idle", RefusalsTest::idle);
        for (int code : new int[] {-1, 6, MIN, MAX}) r.due("2: CODE " + code, UNKNOWN, x -> x.act(code, SET, 0, 0, 0));
        for (int kind : new int[] {-1, KINDS, MIN, MAX}) r.due("2: kind " + kind, OUTSIDE, x -> x.act(0, kind, 0, 0, 0));
        r.due("2: FULL", FULL, x -> x.act(5, SET, 0, 0, 0));
        r.due("2: FULL, by another kind", FULL, x -> x.act(5, END, 9, 9, 9));
        r.due("2: UNKNOWN and OUTSIDE", UNKNOWN, x -> x.act(6, KINDS, 0, 0, 0));
        r.due("2: UNKNOWN and OUTSIDE by a", UNKNOWN, x -> x.act(-1, SET, 4, 0, 0));
        r.due("2: OUTSIDE and FULL", OUTSIDE, x -> x.act(5, KINDS, 0, 0, 0));
        r.due("2: OUTSIDE by a, and FULL", OUTSIDE, x -> x.act(5, SET, 4, 0, 0));
        argumentsOfActs(r);
        r.close();
        Refused b = new Refused("busy", RefusalsTest::busy);
        b.due("2: STATE", STATE, x -> x.act(4, SET, 0, 0, 0));
        b.due("2: STATE and FULL", STATE, x -> x.act(5, SET, 0, 0, 0));
        b.due("2: OUTSIDE and STATE", OUTSIDE, x -> x.act(4, KINDS, 0, 0, 0));
        b.due("2: OUTSIDE by c, and STATE", OUTSIDE, x -> x.act(4, ITEM, 0, 0, 4));
        b.due("2: UNKNOWN and STATE", UNKNOWN, x -> x.act(6, SET, 0, 0, 0));
        b.due("2: OUTSIDE, STATE and FULL", OUTSIDE, x -> x.act(5, SET, -1, 0, 0));
        b.due("3: STATE", STATE, x -> x.wipe());
        b.close();
    }

    /** Of each kind: r REGISTERS to 3, c CELLS to 7, w ROWS to 5, p PLACES to 40, k KINDS to 3, - is not looked at. */
    private static void argumentsOfActs(Refused r) {
        String[] names = {
            "r--", "rr-", "rr-", "rr-", "rc-", "cr-", "cw-", "c--", "rcr", "p--", "rp-",
            "k--", "---", "---", "p--", "p--", "p--", "---", "p--", "---", "r--", "rr-"};
        for (int kind = 0; kind < KINDS; kind++) {
            int[] last = new int[3];
            for (int i = 0; i < 3; i++) last[i] = last(names[kind].charAt(i));
            int taken = kind;
            Due.due("2: the last of all, kind " + kind, idle().act(4, taken, last[0], last[1], last[2]), 0);
            for (int i = 0; i < 3; i++) {
                if (names[kind].charAt(i) == '-') continue;
                for (int v : new int[] {-1, last[i] + 1}) {
                    int[] given = last.clone();
                    given[i] = v;
                    r.due("2: kind " + kind + ", argument " + i + " " + v, OUTSIDE, x -> x.act(4, taken, given[0], given[1], given[2]));
                }
            }
        }
    }

    private static int last(char name) {
        return switch (name) {
            case 'r', 'k' -> 3;
            case 'c' -> 7;
            case 'w' -> 5;
            case 'p' -> 40;
            default -> MAX;
        };
    }

    private static void row() {
        for (House house : List.<House>of(RefusalsTest::idle, RefusalsTest::busy)) {
            Refused r = new Refused(house.made().reset() == 0 ? "idle" : "busy", house);
            for (int k : new int[] {-1, 6, MIN, MAX}) r.due("4: ROW " + k, UNKNOWN, x -> x.row(k, 0, 1));
            for (int lane : new int[] {-1, 5, MIN, MAX}) r.due("4: LANE " + lane, OUTSIDE, x -> x.row(0, lane, 1));
            for (int n : new int[] {17, MAX}) r.due("4: n " + n, OUTSIDE, x -> x.row(0, 3, n));
            for (int n : new int[] {-1, MIN}) r.due("4: n " + n, SIZE, x -> x.row(0, 3, n));
            r.due("4: UNKNOWN and OUTSIDE by LANE", UNKNOWN, x -> x.row(6, 5, 1));
            r.due("4: UNKNOWN and OUTSIDE by n", UNKNOWN, x -> x.row(-1, 3, 17));
            r.due("4: UNKNOWN and SIZE", UNKNOWN, x -> x.row(6, 3, -1));
            r.due("4: OUTSIDE by LANE, and SIZE", OUTSIDE, x -> x.row(0, 5, -1));
            r.due("4: OUTSIDE by LANE, and SIZE, a ROW that is MISSING", OUTSIDE, x -> x.row(3, -1, MIN));
            r.close();
        }
    }

    private static void item() {
        Refused r = new Refused("idle", RefusalsTest::idle);
        for (int k : new int[] {-1, 6, MIN, MAX}) r.due("5: ROW " + k, UNKNOWN, x -> x.item(k, 0, 1));
        r.due("5: MISSING", STATE, x -> x.item(3, 0, 1));
        for (int i : new int[] {-1, 3, 16, MIN, MAX}) r.due("5: ITEM " + i, OUTSIDE, x -> x.item(0, i, 1));
        r.due("5: a ROW of none", OUTSIDE, x -> x.item(5, 0, 1));
        r.due("5: a ROW of two", OUTSIDE, x -> x.item(1, 2, 1));
        r.due("5: UNKNOWN and OUTSIDE", UNKNOWN, x -> x.item(6, 16, 1));
        r.due("5: STATE and OUTSIDE", STATE, x -> x.item(2, -1, 1));
        r.due("5: STATE and OUTSIDE above", STATE, x -> x.item(4, 16, 1));
        r.close();
        Refused b = new Refused("busy", RefusalsTest::busy);
        b.due("5: ROW 6", UNKNOWN, x -> x.item(6, 0, 1));
        b.due("5: MISSING", STATE, x -> x.item(3, 0, 1));
        b.due("5: ITEM 3", OUTSIDE, x -> x.item(0, 3, 1));
        b.close();
    }

    private static void tear() {
        Refused r = new Refused("idle", RefusalsTest::idle);
        for (int k : new int[] {-1, 6, MIN, MAX}) r.due("6: ROW " + k, UNKNOWN, x -> x.tear(k));
        r.due("6: it was so already", 0, x -> x.tear(3));
        r.close();
        Refused b = new Refused("busy", RefusalsTest::busy);
        b.due("6: ROW 6", UNKNOWN, x -> x.tear(6));
        b.close();
    }

    private static void cell() {
        Refused r = new Refused("idle", RefusalsTest::idle);
        for (int c : new int[] {-1, 8, MIN, MAX}) r.due("7: CELL " + c, UNKNOWN, x -> x.cell(c, 1, 4));
        for (int v : new int[] {-1, 6, MIN, MAX}) r.due("7: ROW " + v, UNKNOWN, x -> x.cell(0, 2, v));
        for (int sort : new int[] {-1, 3, MIN, MAX}) r.due("7: sort " + sort, OUTSIDE, x -> x.cell(0, sort, 4));
        r.due("7: UNKNOWN and OUTSIDE", UNKNOWN, x -> x.cell(8, 3, 4));
        r.due("7: CELL and ROW", UNKNOWN, x -> x.cell(-1, 2, 6));
        r.due("7: OUTSIDE, v no ROW", OUTSIDE, x -> x.cell(0, 3, 6));
        r.close();
        Refused b = new Refused("busy", RefusalsTest::busy);
        for (int sort = 0; sort < 3; sort++) {
            int s = sort;
            b.due("7: STATE", STATE, x -> x.cell(0, s, 4));
        }
        b.due("7: OUTSIDE and STATE", OUTSIDE, x -> x.cell(0, 3, 4));
        b.due("7: UNKNOWN and STATE", UNKNOWN, x -> x.cell(8, 1, 4));
        b.due("7: ROW and STATE", UNKNOWN, x -> x.cell(0, 2, 6));
        b.due("7: UNKNOWN, OUTSIDE and STATE", UNKNOWN, x -> x.cell(8, 3, 4));
        b.close();
    }

    private static void way() {
        Refused r = new Refused("idle", RefusalsTest::idle);
        for (int w : new int[] {-1, 4, MIN, MAX}) r.due("8: WAY " + w, OUTSIDE, x -> x.way(w));
        r.close();
        Refused b = new Refused("busy", RefusalsTest::busy);
        for (int way = 0; way < 4; way++) {
            int w = way;
            b.due("8: STATE, WAY " + w, STATE, x -> x.way(w));
        }
        for (int w : new int[] {-1, 4, MIN, MAX}) b.due("8: OUTSIDE and STATE, WAY " + w, OUTSIDE, x -> x.way(w));
        b.close();
    }

    private static void code() {
        Refused r = new Refused("idle", RefusalsTest::idle);
        for (int t : new int[] {-1, 3, MIN, MAX}) r.due("9: THREAD " + t, UNKNOWN, x -> x.code(t, 5));
        for (int code : new int[] {-1, 6, MIN, MAX}) r.due("9: CODE " + code, UNKNOWN, x -> x.code(0, code));
        r.due("9: THREAD and CODE", UNKNOWN, x -> x.code(3, 6));
        r.close();
        Refused b = new Refused("busy", RefusalsTest::busy);
        for (int t = 0; t < 3; t++) {
            int thread = t;
            b.due("9: STATE of THREAD " + t, STATE, x -> x.code(thread, 5));
            b.due("9: CODE and STATE of THREAD " + t, UNKNOWN, x -> x.code(thread, 6));
        }
        b.due("9: THREAD and STATE of the others", UNKNOWN, x -> x.code(3, 0));
        b.close();
    }

    private static void start() {
        Refused r = new Refused("idle", RefusalsTest::idle);
        for (int t : new int[] {-1, 3, MIN, MAX}) r.due("10: THREAD " + t, UNKNOWN, x -> x.start(t));
        r.close();
        Refused b = new Refused("busy", RefusalsTest::busy);
        for (int t = 0; t < 3; t++) {
            int thread = t;
            b.due("10: STATE of THREAD " + t, STATE, x -> x.start(thread));
        }
        b.due("10: THREAD and STATE of the others", UNKNOWN, x -> x.start(3));
        b.close();
    }

    private static void stepAndRun() {
        Refused r = new Refused("idle", RefusalsTest::idle);
        for (int t : new int[] {-1, 3, MIN, MAX}) {
            r.due("12: THREAD " + t, UNKNOWN, x -> x.step(t));
            r.due("13: THREAD " + t, UNKNOWN, x -> x.run(t, 0));
            r.due("13: UNKNOWN and OUTSIDE, THREAD " + t, UNKNOWN, x -> x.run(t, 201));
        }
        for (int t = 0; t < 3; t++) {
            int thread = t;
            r.due("12: THREAD " + t + " is not STARTED", STATE, x -> x.step(thread));
            r.due("13: all are passed over", 0, x -> x.run(thread, 200));
        }
        r.close();
        int[] stands = {4, 1, 3};
        for (int t = 0; t < 3; t++) Due.due("THREAD " + t + " of the busy house", busy().thread(t, 0), stands[t]);
        Due.due("THREAD 1 is in a TRANSACTION", busy().thread(1, 3), Due.DOING);
        Refused b = new Refused("busy", RefusalsTest::busy);
        b.due("12: THREAD 2 is FAILED", STATE, x -> x.step(2));
        b.due("12: THREAD 3", UNKNOWN, x -> x.step(3));
        b.due("13: THREAD 3", UNKNOWN, x -> x.run(3, 5));
        for (int n : new int[] {-1, 201, MIN, MAX}) b.due("13: n " + n, OUTSIDE, x -> x.run(1, n));
        b.due("13: UNKNOWN and OUTSIDE", UNKNOWN, x -> x.run(-1, -1));
        b.due("13: n 0", 0, x -> x.run(1, 0));
        b.close();
    }

    private static void explore() {
        Refused b = new Refused("busy", RefusalsTest::busy);
        for (int n : new int[] {0, -1, 401, MIN, MAX}) b.due("14: n " + n, OUTSIDE, x -> x.explore(n));
        b.close();
        // 4000 less 100 less 3800 are left.
        Refused r = new Refused("hundred left", () -> {
            TransactionCells x = busy();
            for (int i = 0; i < 9; i++) x.explore(400);
            x.explore(200);
            return x;
        });
        for (int n : new int[] {101, 102, 400}) r.due("14: fewer than " + n + " are left", STATE, x -> x.explore(n));
        for (int n : new int[] {0, 401}) r.due("14: OUTSIDE and STATE, " + n, OUTSIDE, x -> x.explore(n));
        r.close();
    }

    private static void end() {
        Refused b = new Refused("busy", RefusalsTest::busy);
        for (int i : new int[] {-2, 1, MIN, MAX}) b.due("15: END " + i, UNKNOWN, x -> x.end(i, 0));
        for (int what : new int[] {-1, 19, MIN, MAX}) b.due("15: what " + what, OUTSIDE, x -> x.end(0, what));
        b.due("15: UNKNOWN and OUTSIDE", UNKNOWN, x -> x.end(1, 19));
        b.due("15: UNKNOWN below, and OUTSIDE", UNKNOWN, x -> x.end(-2, -1));
        b.due("15: how many, of what is no matter", 1, x -> x.end(-1, 19));
        b.close();
    }

    // ---- promises 16 to 23

    private static void whatIsTold() {
        Refused b = new Refused("busy", RefusalsTest::busy);
        for (int t : new int[] {-1, 3, MIN, MAX}) b.due("16: THREAD " + t, UNKNOWN, x -> x.thread(t, 0));
        for (int what : new int[] {-1, 12, MIN, MAX}) b.due("16: what " + what, OUTSIDE, x -> x.thread(2, what));
        b.due("16: UNKNOWN and OUTSIDE", UNKNOWN, x -> x.thread(3, 12));
        for (int c : new int[] {-1, 8, MIN, MAX}) b.due("17: CELL " + c, UNKNOWN, x -> x.told(c, 0));
        for (int what : new int[] {-1, 14, MIN, MAX}) b.due("17: what " + what, OUTSIDE, x -> x.told(7, what));
        b.due("17: UNKNOWN and OUTSIDE", UNKNOWN, x -> x.told(8, 14));
        for (int what : new int[] {-1, 8, MIN, MAX}) b.due("18: what " + what, OUTSIDE, x -> x.count(what));
        b.close();
    }

    private static void orderAndForge() {
        int noted = busy().count(2);
        Due.due("19: some stand in THE ORDER", noted > 0 ? 1 : 0, 1);
        Refused b = new Refused("busy", RefusalsTest::busy);
        for (int i : new int[] {-1, noted, 60, MIN, MAX}) {
            b.due("19: " + i, UNKNOWN, x -> x.order(i, 0));
            b.due("19: UNKNOWN and OUTSIDE " + i, UNKNOWN, x -> x.order(i, 34));
            b.due("20: " + i, UNKNOWN, x -> x.forge(i, 10, 5));
            b.due("20: UNKNOWN and OUTSIDE " + i, UNKNOWN, x -> x.forge(i, 34, 5));
            b.due("20: UNKNOWN, and a sort that is none " + i, UNKNOWN, x -> x.forge(i, 2, 3));
        }
        for (int what : new int[] {-1, 34, MIN, MAX}) {
            b.due("19: what " + what, OUTSIDE, x -> x.order(0, what));
            b.due("20: what " + what, OUTSIDE, x -> x.forge(0, what, 1));
        }
        for (int what = 0; what < 2; what++) {
            int w = what;
            b.due("20: what " + what, OUTSIDE, x -> x.forge(0, w, 1));
        }
        for (int what : new int[] {2, 9, 18, 25}) {
            for (int v : new int[] {-2, 3, MIN, MAX}) b.due("20: sort " + v + " to " + what, OUTSIDE, x -> x.forge(0, what, v));
        }
        b.close();
    }

    /** What names nothing as long as nothing was explored, counted or kept. */
    private static void nothingYet() {
        Refused r = new Refused("new", TransactionCells::new);
        for (int i : new int[] {-2, -1, 0, 1}) r.due("15: there was no such explore(), " + i, UNKNOWN, x -> x.end(i, 0));
        r.due("15: UNKNOWN and OUTSIDE", UNKNOWN, x -> x.end(0, 19));
        for (int i : new int[] {-1, 0}) {
            r.due("19: THE ORDER is empty, " + i, UNKNOWN, x -> x.order(i, 0));
            r.due("20: THE ORDER is empty, " + i, UNKNOWN, x -> x.forge(i, 2, 0));
        }
        r.due("23: none was kept", STATE, x -> x.back());
        for (int k = 0; k < 6; k++) {
            int row = k;
            r.due("5: ROW " + k + " is MISSING", STATE, x -> x.item(row, 0, 1));
            r.due("6: ROW " + k + " is MISSING", 0, x -> x.tear(row));
        }
        for (int t = 0; t < 3; t++) {
            int thread = t;
            r.due("12: THREAD " + t + " is not STARTED", STATE, x -> x.step(thread));
        }
        r.due("11: no THREAD was STARTED", 0, x -> x.reset());
        r.due("3: no ACT is there", 0, x -> x.wipe());
        r.close();
    }

    /** STATE, as any one THREAD is not in state 0, however it stands. */
    private static void someThreadStands() {
        for (int t = 0; t < 3; t++) {
            for (int stands = 1; stands < 5; stands++) {
                int thread = t;
                int so = stands;
                String name = "THREAD " + t + " stands " + stands;
                Due.due(name, standing(t, stands).thread(t, 0), stands);
                Refused r = new Refused(name, () -> standing(thread, so));
                r.due("2", STATE, x -> x.act(1, SET, 0, 0, 0));
                r.due("3", STATE, x -> x.wipe());
                r.due("7", STATE, x -> x.cell(0, 1, 9));
                r.due("8", STATE, x -> x.way(0));
                r.due("9", STATE, x -> x.code(thread, 5));
                r.due("10", STATE, x -> x.start(thread));
                if (stands == 2 || stands == 3) r.due("12", STATE, x -> x.step(thread));
                r.close();
                // The others are in state 0: for them it is no refusal.
                TransactionCells x = standing(t, stands);
                int other = (t + 1) % 3;
                Due.due("9: another one, " + name, x.code(other, 5), 0);
                Due.due("12: another one, " + name, x.step(other), STATE);
                Due.due("10: another one, " + name, x.start(other), 0);
                Due.due("11: both, " + name, x.reset(), 2);
                Due.due("11: none any more, " + name, x.reset(), 0);
                Due.due("2: again, " + name, x.act(1, SET, 0, 0, 0), 6);
                Due.due("8: again, " + name, x.way(3), 2);
                Due.due("7: again, " + name, x.cell(0, 1, 9), 0);
            }
        }
    }

    private static void checkAndBack() {
        Refused r = new Refused("61 COUNTED", () -> {
            TransactionCells x = Due.made(Due.CLOCK, Due.code(a(WRITE, 0, 0), a(JUMP, 0)));
            x.start(0);
            x.run(0, 121);
            return x;
        });
        r.due("18: 61 COUNTED", 61, x -> x.count(1));
        r.due("18: 60 are noted", 60, x -> x.count(2));
        r.due("21: more than 60", STATE, x -> x.check());
        r.due("19: the 61st", UNKNOWN, x -> x.order(60, 0));
        r.due("20: the 61st", UNKNOWN, x -> x.forge(60, 2, 0));
        r.due("23: none was kept", STATE, x -> x.back());
        r.due("19: the first", 0, x -> x.order(0, 0));
        r.due("20: as it was", NONE, x -> x.forge(0, 2, NONE));
        r.close();
    }
}
