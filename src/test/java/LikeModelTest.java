import java.util.ArrayList;
import java.util.List;
import java.util.Random;

/**
 * Runs of calls with arguments from fixed seeds, each answer compared with that of Model. Codes are mostly
 * transactions that meet one another on few cells; the rest is anything. An object is used for 512 calls.
 */
public final class LikeModelTest {
    // One call() is some 60 calls at most; a few are left for THE ORDER at the end.
    private static final int RUNS = 2000, CALLS = 512, BEFORE_ORDER = 410;

    private final Random random;
    private final TransactionCells x = new TransactionCells();
    private final Model m = new Model();
    private final List<String> calls = new ArrayList<>();
    private boolean wrong = false;
    private final int cells;

    private LikeModelTest(long seed) {
        random = new Random(seed);
        cells = 1 + random.nextInt(3);
    }

    public static void main(String[] args) {
        int runs = args.length > 0 ? Integer.parseInt(args[0]) : RUNS;
        long first = args.length > 1 ? Long.parseLong(args[1]) : 1;
        int failed = 0;
        for (long seed = first; seed < first + runs && failed < 5; seed++) {
            if (!new LikeModelTest(seed).isRight()) {
                failed++;
                System.out.println("seed " + seed);
            }
        }
        System.out.println(failed == 0 ? "all answers are those of the model" : failed + " runs are not like the model");
        if (failed != 0) System.exit(1);
    }

    private void due(String call, long got, long want) {
        calls.add(call + " " + got);
        if (got == want || wrong) return;
        wrong = true;
        calls.forEach(System.out::println);
        System.out.println(call + " answered " + got + ", the model " + want);
    }

    private int pick(int many) {
        return random.nextInt(many);
    }

    private boolean chance(int percent) {
        return random.nextInt(100) < percent;
    }

    private void act(int code, int kind, int a, int b, int c) {
        due("act(" + code + ", " + kind + ", " + a + ", " + b + ", " + c + ")", x.act(code, kind, a, b, c), m.act(code, kind, a, b, c));
    }

    private int size(int code) {
        return m.h.codes.get(code).size();
    }

    private void plain(int code) {
        switch (pick(12)) {
            case 0: act(code, 0, pick(4), pick(7) - 2, 0); break;
            case 1: act(code, 1 + pick(3), pick(4), pick(4), 0); break;
            case 2: case 3: case 4: act(code, 4, pick(3), pick(cells), 0); break;
            case 5: case 6: case 7: act(code, 5, pick(cells), pick(4), 0); break;
            case 8: act(code, 6 + pick(2), pick(cells), pick(6), 0); break;
            case 9: act(code, 8, pick(4), pick(cells), pick(4)); break;
            case 10: act(code, 10, pick(4), size(code) + 2 + pick(3), 0); break;
            default: act(code, 21, pick(4), pick(4), 0);
        }
    }

    private void body(int code, int kind, int depth) {
        int many = 1 + pick(4);
        for (int i = 0; i < many && size(code) < 34; i++) {
            if (depth < 3 && chance(15)) scope(code, kind, depth);
            else if (chance(6)) act(code, 20, pick(4), 0, 0);
            else if (kind == 2 && chance(25)) act(code, 13, 0, 0, 0);
            else plain(code);
        }
    }

    /** The handler of a scope, its second too, is near behind it. */
    private void scope(int code, int kind, int depth) {
        int sort = kind < 0 || kind == 3 ? 18 : kind == 2 ? 14 + 2 * pick(3) : 16 + 2 * pick(2);
        act(code, sort, Math.min(40, size(code) + 3 + pick(4)), 0, 0);
        body(code, kind, depth + 1);
        if (chance(90)) act(code, sort + 1, Math.min(40, size(code) + 1 + pick(3)), 0, 0);
    }

    private void transaction(int code) {
        int kind = pick(4);
        act(code, 11, kind, 0, 0);
        body(code, kind, 0);
        if (chance(95)) act(code, 12, 0, 0, 0);
    }

    private void write(int code) {
        boolean guarded = chance(30);
        if (guarded) act(code, 18, pick(20), 0, 0);
        int many = 1 + pick(3);
        for (int i = 0; i < many; i++) {
            if (chance(70)) transaction(code);
            else if (chance(50)) plain(code);
            else act(code, pick(22), pick(6), pick(6), pick(4));
        }
        if (guarded && chance(60)) act(code, 19, 0, 0, 0);
        if (chance(25)) act(code, 9, pick(3), 0, 0);
    }

    private void prepare() {
        int w = pick(4);
        due("way(" + w + ")", x.way(w), m.way(w));
        for (int code = 0; code < 3; code++) write(code);
        for (int i = 0; i < cells; i++) {
            int sort = chance(70) ? 1 : pick(3);
            int v = pick(4);
            due("cell(" + i + ", " + sort + ", " + v + ")", x.cell(i, sort, v), m.cell(i, sort, v));
        }
        for (int k = 0; k < 4; k++) {
            int lane = pick(5);
            int n = pick(4);
            due("row(" + k + ", " + lane + ", " + n + ")", x.row(k, lane, n), m.row(k, lane, n));
            long v = random.nextLong();
            due("item(" + k + ", 0, " + v + ")", x.item(k, 0, v), m.item(k, 0, v));
        }
        for (int t = 0; t < 3; t++) {
            int code = pick(3);
            due("code(" + t + ", " + code + ")", x.code(t, code), m.code(t, code));
            if (chance(85)) due("start(" + t + ")", x.start(t), m.start(t));
        }
    }

    private void call() {
        int a = chance(90) ? pick(3) : pick(12) - 2;
        int b = chance(90) ? pick(19) : pick(60) - 10;
        int c = chance(90) ? pick(5) : random.nextInt();
        int which = pick(100);
        if (which < 50) due("step(" + a + ")", x.step(a), m.step(a));
        else if (which < 60) due("run(" + a + ", " + b + ")", x.run(a, b), m.run(a, b));
        else if (which < 64) explore();
        else if (which < 67) told(a, b, c);
        else if (which < 72) due("check()", x.check(), m.check());
        else if (which < 73) due("keep()", x.keep(), m.keep());
        else if (which < 75) due("back()", x.back(), m.back());
        else if (which < 76) due("reset()", x.reset(), m.reset());
        else if (which < 79) due("start(" + a + ")", x.start(a), m.start(a));
        else if (which < 80) due("way(" + a + ")", x.way(a), m.way(a));
        else if (which < 81) due("tear(" + a + ")", x.tear(a), m.tear(a));
        else if (which < 82) due("row(" + a + ", " + c + ", " + b + ")", x.row(a, c, b), m.row(a, c, b));
        else if (which < 83) due("cell(" + a + ", " + c + ", " + b + ")", x.cell(a, c, b), m.cell(a, c, b));
        else if (which < 84) act(a, b, c, pick(5), pick(4));
        else if (which < 85) due("code(" + a + ", " + c + ")", x.code(a, c), m.code(a, c));
        else if (which < 86 && chance(20)) due("wipe()", x.wipe(), m.wipe());
        else if (which < 87) forge(c);
        else due("thread(" + a + ", " + b + ")", x.thread(a, b), m.thread(a, b));
        due("digest()", x.digest(), m.digest());
    }

    private void explore() {
        int n = chance(70) ? 400 : chance(90) ? 1 + pick(60) : pick(500) - 50;
        due("explore(" + n + ")", x.explore(n), m.explore(n));
        int many = m.end(-1, 0);
        due("end(-1, 0)", x.end(-1, 0), many);
        for (int i = 0; i < Math.min(many, 2); i++) {
            for (int what = 0; what < 19; what++) {
                due("end(" + i + ", " + what + ")", x.end(i, what), m.end(i, what));
            }
        }
    }

    private void told(int a, int b, int c) {
        due("told(" + a + ", " + b + ")", x.told(a, b), m.told(a, b));
        due("count(" + c + ")", x.count(c), m.count(c));
        due("end(" + a + ", " + b + ")", x.end(a, b), m.end(a, b));
        for (int what = -1; what < 35; what++) {
            due("order(" + a + ", " + what + ")", x.order(a, what), m.order(a, what));
        }
    }

    private void forge(int v) {
        int i = pick(5) - 1;
        int what = pick(36);
        due("forge(" + i + ", " + what + ", " + v + ")", x.forge(i, what, v), m.forge(i, what, v));
        due("check()", x.check(), m.check());
    }

    private boolean isRight() {
        prepare();
        if (chance(50)) explore();
        while (calls.size() < BEFORE_ORDER && !wrong) call();
        int noted = m.count(2);
        while (calls.size() < CALLS && !wrong) {
            int i = pick(noted + 1);
            int what = pick(34);
            due("order(" + i + ", " + what + ")", x.order(i, what), m.order(i, what));
        }
        return !wrong;
    }
}
