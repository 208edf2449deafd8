import java.util.ArrayList;
import java.util.List;

/**
 * All that can be asked of an object, in some 300 calls; they leave nothing of it as it was. Two objects with
 * the same calls behind them have the same portrait, and a refused call more on one of them leaves that so.
 */
final class Portrait {
    private static final int STATE = Due.STATE;

    private final TransactionCells x;
    private final List<String> told = new ArrayList<>();

    private Portrait(TransactionCells x) {
        this.x = x;
    }

    static List<String> of(TransactionCells x) {
        Portrait p = new Portrait(x);
        p.order();
        p.ends();
        p.cost();
        p.goingOn();
        p.codes();
        p.rows();
        p.kept();
        return p.told;
    }

    /** The first line in which two portraits are unlike; none, if there is none. */
    static String unlike(List<String> one, List<String> other) {
        for (int i = 0; i < Math.max(one.size(), other.size()); i++) {
            String a = i < one.size() ? one.get(i) : "nothing";
            String b = i < other.size() ? other.get(i) : "nothing";
            if (!a.equals(b)) return a + ", not " + b;
        }
        return "";
    }

    private void tell(String what, long answer) {
        told.add(what + " " + answer);
    }

    /** What is told of the house as it is, and the first notes of THE ORDER. */
    private void order() {
        tell("digest", x.digest());
        tell("check", x.check());
        for (int i = 0; i < 3; i++) {
            for (int what = 0; what < 34; what++) tell("order " + i + " " + what, x.order(i, what));
        }
    }

    private void ends() {
        tell("ends", x.end(-1, 0));
        for (int i = 0; i < 2; i++) {
            for (int what = 0; what < 19; what++) tell("end " + i + " " + what, x.end(i, what));
        }
    }

    /** How many HOUSES may still be met. */
    private void cost() {
        int left = 0;
        for (int i = 0; i < 10 && x.explore(400) != STATE; i++) left += 400;
        for (int n = 256; n > 0; n /= 2) {
            if (x.explore(n) != STATE) left += n;
        }
        tell("houses left", left);
    }

    /** How its THREADS go on, and from the start. */
    private void goingOn() {
        tell("run", x.run(0, 200));
        tell("digest after run", x.digest());
        tell("check after run", x.check());
        tell("reset", x.reset());
        tell("digest after reset", x.digest());
        for (int t = 0; t < 3; t++) tell("start " + t, x.start(t));
        tell("run from the start", x.run(1, 200));
        tell("digest of that", x.digest());
        x.reset();
    }

    private void codes() {
        for (int code = 0; code < 6; code++) {
            x.code(0, code);
            x.start(0);
            x.run(0, 60);
            tell("code " + code, x.digest());
            x.reset();
            tell("size of code " + code, x.act(code, Due.SET, 0, 0, 0));
        }
        tell("wipe", x.wipe());
    }

    /** By a CODE that takes the first three ITEMS of the ROW of CELL 0; then of what LANE they are. */
    private void rows() {
        x.code(0, 0);
        for (int i = 0; i < 3; i++) {
            x.act(0, Due.SET, 3, i, 0);
            x.act(0, Due.ITEM, i, 0, 3);
        }
        for (int k = 0; k < 6; k++) {
            x.cell(0, 2, k);
            items("row " + k);
            tell("item", x.item(k, 0, 0x123456789L));
            items("lane of " + k);
            tell("tear " + k, x.tear(k));
        }
    }

    private void items(String what) {
        x.start(0);
        x.run(0, 9);
        tell(what, x.digest());
        x.reset();
    }

    private void kept() {
        tell("back", x.back());
        tell("digest after back", x.digest());
        tell("check after back", x.check());
        for (int what : new int[] {0, 1, 2, 10, 18, 26}) tell("order after back", x.order(0, what));
        tell("run after back", x.run(0, 200));
        tell("digest after that", x.digest());
    }
}
