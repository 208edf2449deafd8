import java.util.ArrayList;
import java.util.Arrays;
import java.util.HashSet;
import java.util.List;
import java.util.Set;

/** Promises 14 and 15 where one house has many ENDS: how many, which, and that they stand as they were met. */
public final class EndsTest {
    private static final int NONE = Due.NONE, UNKNOWN = Due.UNKNOWN, OUTSIDE = Due.OUTSIDE;
    private static final int SET = Due.SET, ADD = Due.ADD, READ = Due.READ, WRITE = Due.WRITE, LINK = Due.LINK, VOID = Due.VOID;
    private static final int JUMP = Due.JUMP, IF_NONE = Due.IF_NONE, BEGIN = Due.BEGIN, SURE = Due.SURE, FAIL = Due.FAIL;
    private static final int CLOCK = Due.CLOCK, PICTURE = Due.PICTURE, COARSE = Due.COARSE;
    // CELL 1 is what THREAD 0 reads again and again, till THREAD 1 makes it NOTHING.
    private static final int FLAG = 1, TOLD = 19, MOST_PAIRS = 20;

    private static void due(String what, long got, long want) {
        Due.due(what, got, want);
    }

    private static int[] a(int... act) {
        return act;
    }

    public static void main(String[] args) {
        for (int pairs = 0; pairs <= MOST_PAIRS; pairs++) {
            for (int sure = 0; sure < 2; sure++) chain(pairs, sure == 1);
        }
        twice();
        thrice();
        fewerThanThereAre();
        fromTheMidst();
        likeTheModel();
        Due.close();
    }

    // ---- a chain of WRITINGS that is broken somewhere

    /** The i-th of WRITINGS each of which makes the CELLS as they were never before. */
    private static int[] writing(int i) {
        return a(LINK, 2 + i / 6, i % 6);
    }

    /** So many times: the FLAG is read, a CELL is written. */
    private static int[][] pairs(int many) {
        int[][] acts = new int[2 * many][];
        for (int i = 0; i < many; i++) {
            acts[2 * i] = a(READ, 0, FLAG);
            acts[2 * i + 1] = writing(i);
        }
        return acts;
    }

    /**
     * THREAD 0 by this CODE; THREAD 1 makes the FLAG NOTHING, by which THREAD 0 FAILS as it reads it next. A SURE one
     * has begun to do so, and COUNTS as it FAILS at its CODE's end; till then the FLAG is HELD.
     */
    private static TransactionCells broken(int[][] code, boolean isSure) {
        TransactionCells x = Due.made(CLOCK, code, isSure ? Due.behind(SURE, a(VOID, FLAG)) : Due.code(a(VOID, FLAG)));
        x.cell(FLAG, 1, 0);
        x.start(0);
        x.start(1);
        if (isSure) Due.steps("12: SURE", x, 1, 1);
        return x;
    }

    /**
     * Of many pairs: THREAD 0 alone has 2 many + 2 houses; broken at a READ two, at a WRITING three, behind all two,
     * each of these with THREAD 1 GOING and ENDED; where it is SURE it is FAILED at once, but 2 many + 2 are HELD.
     */
    private static void chain(int many, boolean isSure) {
        int[][] code = pairs(many);
        int alone = 2 * many + 2;
        int broken = 2 * many + 3 * many + 2;
        isBroken("of " + many + " pairs", code, isSure, isSure ? 2 * alone + broken : alone + 2 * broken, many + 1);
    }

    /** How many houses and ENDS there are, and that these are the ENDS which are due. */
    private static void isBroken(String what, int[][] code, boolean isSure, int houses, int many) {
        List<int[]> acts = alone(code);
        due("14: houses " + what + ", reckoned otherwise", housesOf(acts, isSure), houses);
        due("14: houses " + what, broken(code, isSure).explore(400), houses);
        due("14: just enough " + what, broken(code, isSure).explore(houses), houses);
        due("14: one too few " + what, broken(code, isSure).explore(houses - 1), -houses);
        List<int[]> ends = endsOf(acts, isSure);
        due("15: ENDS that are unlike, " + what, ends.size(), many);
        areEnds(what, code, isSure, ends);
    }

    /** What THREAD 0 does where nobody breaks it: its ACTS, one behind the other. */
    private static List<int[]> alone(int[][] code) {
        TransactionCells x = broken(code, false);
        List<int[]> acts = new ArrayList<>();
        while (x.thread(0, 1) < code.length) {
            acts.add(code[x.thread(0, 1)]);
            Due.steps("12: alone", x, 0, 1);
        }
        Due.steps("12: alone", x, 0, 4);
        return acts;
    }

    /** Houses with the FLAG made NOTHING are told by how many WRITINGS were before that, and how far THREAD 0 is. */
    private static int housesOf(List<int[]> acts, boolean isSure) {
        Set<String> met = new HashSet<>();
        int writings = 0;
        for (int at = 0; at <= acts.size(); at++) {
            int far = at;
            while (far < acts.size() && acts.get(far)[0] != READ) met.add(writings + " at " + far++);
            met.add(writings + " at " + far);
            met.add(writings + " done at " + far);
            if (at < acts.size() && isWriting(acts.get(at))) writings++;
        }
        int alone = acts.size() + 2;
        return isSure ? 2 * alone + met.size() : alone + 2 * met.size();
    }

    private static boolean isWriting(int[] act) {
        return act[0] == WRITE || act[0] == LINK;
    }

    /** Behind each WRITING, where the FLAG is read, THREAD 0 FAILS; or it ENDS behind all of them. */
    private static List<int[]> endsOf(List<int[]> acts, boolean isSure) {
        List<int[]> ends = new ArrayList<>();
        // THREAD 1 is ENDED, or FAILED, 2 is not STARTED; all CELLS but those that are written are NOTHING.
        int[] end = new int[TOLD];
        end[16] = 3;
        end[17] = isSure ? 3 : 2;
        int[] r = new int[4];
        for (int[] act : acts) {
            if (act[0] == READ) addUnlike(ends, end);
            if (act[0] == SET) r[act[1]] = act[2];
            if (act[0] == ADD) r[act[1]] += r[act[2]];
            if (!isWriting(act)) continue;
            end[act[1]] = act[0] == WRITE ? 1 : 2;
            end[8 + act[1]] = act[0] == WRITE ? r[act[2]] : act[2];
        }
        end[16] = 2;
        addUnlike(ends, end);
        return ends;
    }

    private static void addUnlike(List<int[]> ends, int[] end) {
        for (int[] other : ends) {
            if (Arrays.equals(other, end)) return;
        }
        ends.add(end.clone());
    }

    /** All ENDS, each what of each; some at a time, as an object is for 512 calls. */
    private static void areEnds(String what, int[][] code, boolean isSure, List<int[]> ends) {
        int some = 18;
        for (int from = 0; from < ends.size(); from += some) {
            TransactionCells x = broken(code, isSure);
            x.explore(400);
            due("15: how many, " + what, x.end(-1, 0), ends.size());
            for (int i = from; i < Math.min(from + some, ends.size()); i++) {
                for (int told = 0; told < TOLD; told++) {
                    due("15: END " + i + " " + what + ", " + told, x.end(i, told), ends.get(i)[told]);
                }
            }
            due("15: one further, " + what, x.end(ends.size(), 0), UNKNOWN);
            due("15: the last, what 19", x.end(ends.size() - 1, TOLD), OUTSIDE);
            due("15: the last, what -1", x.end(ends.size() - 1, -1), OUTSIDE);
        }
    }

    // ---- more than once through a CODE, for more ENDS than its 40 ACTS have READINGS

    /** In the second round CELLS 2 and 3 come to be as they were at its begin: twice a house has an END that is there. */
    private static void twice() {
        int many = 15;
        int[][] code = Arrays.copyOf(pairs(many), 2 * many + 4);
        // The first time r[3] is 0, the second time 1; CELL 0 tells which of the two it is.
        code[1] = a(WRITE, 0, 3);
        code[2 * many] = a(IF_NONE, 3, 2 * many + 2);
        code[2 * many + 1] = a(JUMP, 40);
        code[2 * many + 2] = a(SET, 3, 1);
        code[2 * many + 3] = a(JUMP, 0);
        isBroken("twice", code, false, housesOf(alone(code), false), 2 * many + 1 - 2);
    }

    /** In each round r[3] is another number, which comes to seven CELLS; then CELL 0 becomes each of the ROWS. */
    private static void thrice() {
        int many = 13;
        List<int[]> code = new ArrayList<>(List.of(a(SET, 2, 1), a(SET, 3, -3)));
        for (int i = 0; i < many; i++) {
            code.add(a(READ, 0, FLAG));
            code.add(i == 0 ? a(WRITE, 0, 3) : i < 7 ? a(WRITE, i + 1, 3) : a(LINK, 0, i - 7));
        }
        code.addAll(List.of(a(ADD, 3, 2), a(IF_NONE, 3, 40), a(JUMP, 2)));
        int[][] acts = code.toArray(new int[0][]);
        isBroken("thrice", acts, true, housesOf(alone(acts), true), 3 * many + 1);
    }

    // ---- the ENDS of another explore()

    /** Many ENDS, then few, then many again: of the latest that met all, and none of the others. */
    private static void fewerThanThereAre() {
        TransactionCells x = broken(pairs(MOST_PAIRS), false);
        int all = 12 * MOST_PAIRS + 6;
        x.keep();
        due("14: many", x.explore(400), all);
        due("15: many", x.end(-1, 0), MOST_PAIRS + 1);
        due("15: the last", x.end(MOST_PAIRS, 16), 2);
        x.run(1, 1);
        due("14: broken at the first", x.explore(400), 2 * 2);
        due("15: one", x.end(-1, 0), 1);
        due("15: FAILED", x.end(0, 16), 3);
        due("15: those of before are gone", x.end(1, 0), UNKNOWN);
        due("15: those of before are gone", x.end(MOST_PAIRS, 0), UNKNOWN);
        x.back();
        due("14: one too few", x.explore(all - 1), -all);
        due("15: still those of the latest that met all", x.end(-1, 0), 1);
        due("14: many again", x.explore(all), all);
        due("15: many again", x.end(-1, 0), MOST_PAIRS + 1);
        for (int i = 0; i <= MOST_PAIRS; i++) due("15: END " + i, x.end(i, 16), i < MOST_PAIRS ? 3 : 2);
    }

    /** What was done already is in all ENDS: of the pairs that are left there is one less each. */
    private static void fromTheMidst() {
        for (int done = 0; done <= 5; done++) {
            TransactionCells x = broken(pairs(5), false);
            for (int i = 0; i < 2 * done; i++) Due.steps("12", x, 0, 1);
            int left = 5 - done;
            due("14: houses of the pairs that are left", x.explore(400), 12 * left + 6);
            due("15: ENDS of these", x.end(-1, 0), left + 1);
            due("15: the first one", x.end(0, 10), Math.max(0, done - 1));
            due("15: the last one", x.end(left, 10), 4);
        }
    }

    // ---- houses that were found by trying, for their many ENDS

    private static void likeTheModel() {
        isLikeTheModel(CLOCK, a(0, 0, 1, 1, 2, 0, 0, 2), Due.code(a(VOID, 5), a(VOID, 0), a(WRITE, 1, 3), a(READ, 1, 1)), Due.code(),
            Due.code(a(WRITE, 5, 1), a(WRITE, 0, 1), a(LINK, 1, 2), a(READ, 2, 1), a(LINK, 1, 3), a(FAIL, 2)));
        isLikeTheModel(COARSE, a(1, 1, 2, 0, 0, 1, 1, 2), Due.code(a(WRITE, 3, 2), a(READ, 0, 3), a(LINK, 7, 1), a(READ, 0, 3), a(LINK, 2, 2),
            a(SET, 0, 2), a(READ, 1, 0), a(WRITE, 0, 2)),
            Due.code(a(READ, 1, 0), a(LINK, 3, 5), a(WRITE, 2, 1), a(LINK, 0, 2), a(READ, 2, 0)), Due.code());
        isLikeTheModel(PICTURE, a(2, 0, 0, 1, 2, 1, 2, 1), Due.code(a(WRITE, 3, 1), a(READ, 3, 0), a(WRITE, 0, 3), a(ADD, 3, 0),
            a(LINK, 7, 2), a(READ, 0, 7), a(LINK, 3, 5), a(WRITE, 7, 2), a(READ, 1, 7)),
            Due.code(a(READ, 2, 0), a(LINK, 0, 1), a(READ, 0, 7), a(WRITE, 7, 3), a(LINK, 3, 2), a(LINK, 7, 3), a(READ, 0, 3), a(WRITE, 0, 1)),
            Due.code());
        isLikeTheModel(COARSE, a(0, 1, 2, 0, 1, 1, 1, 0), Due.code(a(READ, 3, 6), a(BEGIN, SURE), a(WRITE, 4, 1), a(LINK, 2, 2), a(LINK, 3, 4),
            a(WRITE, 6, 1), a(LINK, 5, 3)),
            Due.code(a(READ, 1, 7), a(LINK, 4, 2)), Due.code(a(LINK, 4, 5), a(WRITE, 5, 2), a(LINK, 2, 4), a(READ, 1, 5), a(LINK, 6, 0),
                a(LINK, 2, 5), a(WRITE, 7, 2), a(READ, 2, 4)));
        isLikeTheModel(COARSE, a(1, 1, 2, 0, 2, 0, 1, 0), Due.code(a(LINK, 2, 2), a(READ, 0, 4), a(LINK, 4, 0)), Due.code(a(READ, 3, 2)),
            Due.code(a(LINK, 2, 3), a(READ, 3, 4), a(LINK, 4, 5)));
    }

    /** Each END of the house beside that of the Model; a THREAD whose CODE is empty is not STARTED. */
    private static void isLikeTheModel(int way, int[] cells, int[][]... codes) {
        TransactionCells x = Due.made(way, codes);
        Model m = new Model();
        m.way(way);
        for (int c = 0; c < 3; c++) {
            for (int[] act : codes[c]) m.act(c, act[0], act[1], act.length > 2 ? act[2] : 0, 0);
            m.code(c, c);
        }
        for (int c = 0; c < 8; c++) {
            int sort = cells[c] == 0 ? 0 : 1;
            x.cell(c, sort, cells[c]);
            m.cell(c, sort, cells[c]);
        }
        for (int t = 0; t < 3; t++) {
            if (codes[t].length == 0) continue;
            x.start(t);
            m.start(t);
        }
        due("14: houses", x.explore(400), m.explore(400));
        int many = m.end(-1, 0);
        due("15: many ENDS", many > 15 ? 1 : 0, 1);
        due("15: ENDS", x.end(-1, 0), many);
        for (int i = 0; i <= many; i++) {
            for (int told = 0; told < TOLD; told++) due("15: END " + i + ", " + told, x.end(i, told), m.end(i, told));
        }
        due("15: none before the first", x.end(NONE - 1, 0), UNKNOWN);
    }
}
