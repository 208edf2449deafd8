import java.util.Arrays;

/**
 * A house of cells that threads change in transactions, each as if at one blink.
 * The words in capitals of the document are the words of the comments here.
 */
public final class TransactionCells {
    public static final int NONE = -1, UNKNOWN = -101, OUTSIDE = -102, STATE = -103, FULL = -104, SIZE = -15;

    private static final int CELLS = 8, THREADS = 3, REGISTERS = 4;
    private static final int MOST_STEPS = 200, MOST_TURNS = THREADS * (MOST_STEPS + 1), HOUSES_IN_ALL = 4000;

    private final House house = new House();
    private final House kept = new House();
    private final Steps steps = new Steps(house);
    private boolean isKept = false;
    private Explorer explorer = null;
    private int housesLeft = HOUSES_IN_ALL;

    public TransactionCells() {
    }

    // ---- what is told ahead

    public int act(int code, int kind, int a, int b, int c) {
        if (!isIn(code, Codes.MANY)) return UNKNOWN;
        if (!Codes.fits(kind, a, b, c)) return OUTSIDE;
        if (house.isBegun()) return STATE;
        if (house.codes.sizes[code] >= Codes.MOST_ACTS) return FULL;
        return house.codes.append(code, kind, a, b, c);
    }

    public int wipe() {
        return house.isBegun() ? STATE : house.codes.empty();
    }

    public int row(int k, int lane, int n) {
        if (!isIn(k, Rows.MANY)) return UNKNOWN;
        if (!isIn(lane, Rows.LANES) || n > Rows.MOST_ITEMS) return OUTSIDE;
        if (n < 0) return SIZE;
        house.rows.lay(k, lane, n);
        return 0;
    }

    public int item(int k, int i, long v) {
        if (!isIn(k, Rows.MANY)) return UNKNOWN;
        if (house.rows.isMissing(k)) return STATE;
        if (!isIn(i, house.rows.sizes[k])) return OUTSIDE;
        house.rows.put(k, i, v);
        return 0;
    }

    public int tear(int k) {
        if (!isIn(k, Rows.MANY)) return UNKNOWN;
        if (house.rows.isMissing(k)) return 0;
        house.rows.lanes[k] = NONE;
        return 1;
    }

    public int cell(int x, int sort, int v) {
        if (!isIn(x, CELLS) || sort == House.ROW && !isIn(v, Rows.MANY)) return UNKNOWN;
        if (!House.isSort(sort)) return OUTSIDE;
        if (house.isBegun()) return STATE;
        house.now[At.SORT + x] = sort;
        house.now[At.WHAT + x] = sort == House.NOTHING ? 0 : v;
        house.markFirst();
        return 0;
    }

    public int way(int w) {
        if (!isIn(w, Dealings.WAYS)) return OUTSIDE;
        if (house.isBegun()) return STATE;
        int old = house.now[At.WAY];
        house.now[At.WAY] = w;
        return old;
    }

    public int code(int t, int code) {
        if (!isIn(t, THREADS) || !isIn(code, Codes.MANY)) return UNKNOWN;
        if (house.now[At.STANDS + t] != House.NOT_STARTED) return STATE;
        house.now[At.CODE_OF + t] = code;
        return 0;
    }

    public int start(int t) {
        if (!isIn(t, THREADS)) return UNKNOWN;
        if (house.now[At.STANDS + t] != House.NOT_STARTED) return STATE;
        house.now[At.STANDS + t] = House.GOING;
        return 0;
    }

    public int reset() {
        int begun = house.countBegun();
        house.restart();
        return begun;
    }

    // ---- steps

    public int step(int t) {
        if (!isIn(t, THREADS)) return UNKNOWN;
        return house.canStep(t) ? steps.advance(t) : STATE;
    }

    public int run(int t, int n) {
        if (!isIn(t, THREADS)) return UNKNOWN;
        if (n < 0 || n > MOST_STEPS) return OUTSIDE;
        int done = 0;
        int idle = 0;
        int used = 0;
        // Of THREADS turns in a row one at least is a STEP that is done, or it is over.
        for (int turns = 0; turns < MOST_TURNS && used < n && idle < THREADS; turns++) {
            int turn = (t + turns) % THREADS;
            idle++;
            if (!house.canStep(turn)) continue;
            used++;
            if (steps.advance(turn) == Steps.WAITS) continue;
            done++;
            idle = 0;
        }
        return done;
    }

    public int explore(int n) {
        if (n < 1 || n > Explorer.MOST_HOUSES) return OUTSIDE;
        if (housesLeft < n) return STATE;
        housesLeft -= n;
        // Its rows are large, and many an object is never explored.
        if (explorer == null) explorer = new Explorer(house, steps);
        return explorer.meetAll(n);
    }

    public int end(int i, int what) {
        if (explorer == null || i < NONE || i >= explorer.endsMany) return UNKNOWN;
        if (i == NONE) return explorer.endsMany;
        if (!isIn(what, Explorer.END)) return OUTSIDE;
        return explorer.ends[i * Explorer.END + what];
    }

    // ---- what is told

    public int thread(int t, int what) {
        if (!isIn(t, THREADS)) return UNKNOWN;
        int[] now = house.now;
        switch (what) {
            case 0: return now[At.STANDS + t];
            case 1: return now[At.PLACE + t];
            case 2: return now[At.FAILURE + t];
            case 3: return now[At.KIND + t];
            case 4: return now[At.ANEW_OF + t];
            case 5: return now[At.DONE_OF + t];
            case 6: return now[At.WAITED_OF + t];
            case 7: return now[At.DEPTH + t];
            default: return isIn(what - 8, REGISTERS) ? now[At.REGISTER + REGISTERS * t + what - 8] : OUTSIDE;
        }
    }

    public int told(int x, int what) {
        if (!isIn(x, CELLS)) return UNKNOWN;
        if (!isIn(what, 14)) return OUTSIDE;
        int[] now = house.now;
        switch (what) {
            case 0: return now[At.SORT + x];
            case 1: return now[At.WHAT + x];
            case 2: return now[At.VERSION + x];
            case 3: return now[At.OWNER + x];
            case 4: return now[At.HOLDER + x];
            default: break;
        }
        if (what < 8) return now[At.READS + At.TX * (what - 5) + x];
        if (what < 11) return now[At.LOG + At.TX * (what - 8) + x];
        return now[At.LOG + At.TX * (what - 11) + CELLS + x];
    }

    public int count(int what) {
        switch (what) {
            case 0: return house.now[At.CLOCK];
            case 1: return house.notes.counted;
            case 2: return house.notes.noted();
            case 3: return house.now[At.BEGUN];
            case 4: return house.now[At.ANEWS];
            case 5: return house.now[At.LOCK];
            case 6: return house.now[At.SURE];
            case 7: return house.now[At.WAY];
            default: return OUTSIDE;
        }
    }

    public int order(int i, int what) {
        if (!isIn(i, house.notes.noted())) return UNKNOWN;
        if (!isIn(what, Notes.TOLD)) return OUTSIDE;
        return house.notes.notes[i * Notes.NOTE + what];
    }

    public int forge(int i, int what, int v) {
        if (!isIn(i, house.notes.noted())) return UNKNOWN;
        if (what < Notes.READ || what >= Notes.TOLD) return OUTSIDE;
        if (Notes.isSortPlace(what) && v != NONE && !House.isSort(v)) return OUTSIDE;
        int place = i * Notes.NOTE + what;
        int old = house.notes.notes[place];
        house.notes.notes[place] = v;
        return old;
    }

    public int check() {
        if (house.notes.counted > Notes.MOST) return STATE;
        return house.notes.firstWrong(house.now);
    }

    public int keep() {
        kept.copyFrom(house);
        isKept = true;
        return 0;
    }

    public int back() {
        if (!isKept) return STATE;
        house.copyFrom(kept);
        return 0;
    }

    public long digest() {
        long h = 41;
        for (int x = 0; x < CELLS; x++) {
            for (int what = 0; what < 14; what++) h = 31 * h + told(x, what);
        }
        for (int t = 0; t < THREADS; t++) {
            for (int what = 0; what < 12; what++) h = 31 * h + thread(t, what);
        }
        for (int what = 0; what < 8; what++) h = 31 * h + count(what);
        return h;
    }

    private static boolean isIn(int v, int many) {
        return v >= 0 && v < many;
    }

    /**
     * Where the numbers of a house stand. They stand in ONE row of ints, because explore() copies and
     * compares whole houses. First what makes two houses like or unlike, then the rest from ANEW_OF on.
     */
    private static final class At {
        static final int CLOCK = 0, LOCK = 1, SURE = 2;
        // One for each THREAD; DEPTH is how many SCOPES it has.
        static final int STANDS = 3, PLACE = 6, FAILURE = 9, DEPTH = 12, KIND = 15, AGE = 18;
        // Four for each THREAD.
        static final int REGISTER = 21;
        // One for each CELL; the three older VALUES stand behind, each VALUE further on.
        static final int OWNER = 33, HOLDER = 41, SORT = 49, WHAT = 57, VERSION = 65;
        static final int VALUE = 24, OLDER = SORT + VALUE, HEAD = OLDER;
        // Of the TRANSACTION of THREAD 0, each next one TX further on. SEEN and LOG: 8 sorts, then 8 VALUES.
        // READS has VERSIONS; SEEN is what order() will tell of what was read, which is more than READS.
        static final int START = 145, BEHIND = 146, OUTER = 147, OLD_REGISTER = 148;
        static final int READS = 152, SEEN = 160, LOG = 176, TX = 47, TRANSACTIONS = START;
        // Of SCOPE 0 of THREAD 0, each next one SCOPE further on, four for each THREAD.
        static final int SCOPES = TRANSACTIONS + 3 * TX;
        static final int SCOPE_SORT = SCOPES, SCOPE_PLACE = SCOPES + 1, SCOPE_REGISTER = SCOPES + 2;
        static final int SCOPE_LOG = SCOPES + 6, SCOPE = 22, MOST_SCOPES = 4;
        // What two houses that are like may have unlike.
        static final int ANEW_OF = SCOPES + 12 * SCOPE, DONE_OF = ANEW_OF + 3, WAITED_OF = ANEW_OF + 6;
        // What reset() leaves: BEGUN and ANEWS count since the object was made.
        static final int BEGUN = ANEW_OF + 9, ANEWS = BEGUN + 1, CODE_OF = BEGUN + 2, WAY = BEGUN + 5;
        // The CELLS that check() begins with: 8 sorts, then 8 VALUES.
        static final int FIRST = BEGUN + 6, ALL = FIRST + 16;
    }

    /** All that keep() keeps. */
    private static final class House {
        static final int NOT_STARTED = 0, GOING = 1, ENDED = 2, FAILED = 3, ASLEEP = 4;
        static final int NOTHING = 0, NUMBER = 1, ROW = 2;

        final int[] now = new int[At.ALL];
        final Codes codes = new Codes();
        final Rows rows = new Rows();
        final Notes notes = new Notes();

        House() {
            restart();
        }

        static boolean isSort(int sort) {
            return sort >= NOTHING && sort <= ROW;
        }

        void copyFrom(House other) {
            System.arraycopy(other.now, 0, now, 0, At.ALL);
            codes.copyFrom(other.codes);
            rows.copyFrom(other.rows);
            notes.copyFrom(other.notes);
        }

        /** What reset() does: all but the VALUES, what was told ahead, and what is counted ever, is as at first. */
        void restart() {
            Arrays.fill(now, 0, At.OWNER, 0);
            now[At.LOCK] = NONE;
            now[At.SURE] = NONE;
            Arrays.fill(now, At.KIND, At.KIND + THREADS, NONE);
            Arrays.fill(now, At.OWNER, At.HOLDER + CELLS, NONE);
            Arrays.fill(now, At.VERSION, At.VERSION + CELLS, 0);
            // An older VALUE that is not there has VERSION NONE.
            Arrays.fill(now, At.OLDER, At.TRANSACTIONS, NONE);
            Arrays.fill(now, At.TRANSACTIONS, At.BEGUN, 0);
            for (int t = 0; t < THREADS; t++) clearWork(t);
            notes.counted = 0;
            markFirst();
        }

        void markFirst() {
            System.arraycopy(now, At.SORT, now, At.FIRST, 2 * CELLS);
        }

        int countBegun() {
            int begun = 0;
            for (int t = 0; t < THREADS; t++) {
                if (now[At.STANDS + t] != NOT_STARTED) begun++;
            }
            return begun;
        }

        boolean isBegun() {
            return countBegun() > 0;
        }

        boolean canStep(int t) {
            int stands = now[At.STANDS + t];
            return stands == GOING || stands == ASLEEP;
        }

        /** READS and LOG of a THREAD are empty. */
        void clearWork(int t) {
            int reads = At.READS + At.TX * t;
            int seen = At.SEEN + At.TX * t;
            int log = At.LOG + At.TX * t;
            Arrays.fill(now, reads, reads + CELLS, NONE);
            Arrays.fill(now, seen, seen + CELLS, NONE);
            Arrays.fill(now, seen + CELLS, seen + 2 * CELLS, 0);
            Arrays.fill(now, log, log + CELLS, NONE);
            Arrays.fill(now, log + CELLS, log + 2 * CELLS, 0);
        }

        /** A CELL gets a VALUE, with the CLOCK as VERSION; the oldest of the four before goes. */
        void change(int x, int sort, int what) {
            for (int older = At.OLDER + 2 * At.VALUE + x; older >= At.OLDER; older -= At.VALUE) {
                for (int part = 0; part < At.VALUE; part += CELLS) now[older + part] = now[older - At.VALUE + part];
            }
            now[At.SORT + x] = sort;
            now[At.WHAT + x] = what;
            now[At.VERSION + x] = now[At.CLOCK];
        }
    }

    /** The CODES, each a row of ACTS; an ACT is four ints: kind, a, b, c. */
    private static final class Codes {
        static final int SET = 0, ADD = 1, LESS = 2, PART = 3, READ = 4, WRITE = 5, LINK = 6, VOID = 7, ITEM = 8;
        static final int JUMP = 9, IF_NONE = 10, BEGIN = 11, END = 12, RETRY = 13, EITHER = 14, OR = 15, NEST = 16;
        static final int JOIN = 17, TRY = 18, DONE = 19, FAIL = 20, BELOW = 21;
        static final int MANY = 6, MOST_ACTS = 40, ACT = 4;

        // Of each kind: a, b and c have to be below this; 0: not looked at.
        // REGISTERS 4, CELLS 8, ROWS 6, PLACES 41, KINDS of TRANSACTIONS 4.
        private static final int[] A_BELOW = {
            4, 4, 4, 4, 4, 8, 8, 8, 4, 41, 4, 4, 0, 0, 41, 41, 41, 0, 41, 0, 4, 4};
        private static final int[] B_BELOW = {
            0, 4, 4, 4, 8, 4, 6, 0, 8, 0, 41, 0, 0, 0, 0, 0, 0, 0, 0, 0, 0, 4};
        private static final int[] C_BELOW = {
            0, 0, 0, 0, 0, 0, 0, 0, 4, 0, 0, 0, 0, 0, 0, 0, 0, 0, 0, 0, 0, 0};

        final int[] acts = new int[MANY * MOST_ACTS * ACT];
        final int[] sizes = new int[MANY];

        static boolean fits(int kind, int a, int b, int c) {
            return kind >= 0 && kind < A_BELOW.length
                && isBelow(a, A_BELOW[kind]) && isBelow(b, B_BELOW[kind]) && isBelow(c, C_BELOW[kind]);
        }

        private static boolean isBelow(int v, int limit) {
            return limit == 0 || isIn(v, limit);
        }

        /** Where an ACT stands; NONE, if none is at the PLACE. */
        int at(int code, int place) {
            return isIn(place, sizes[code]) ? (code * MOST_ACTS + place) * ACT : NONE;
        }

        int append(int code, int kind, int a, int b, int c) {
            int place = sizes[code]++;
            int at = at(code, place);
            acts[at] = kind;
            acts[at + 1] = a;
            acts[at + 2] = b;
            acts[at + 3] = c;
            return place;
        }

        int empty() {
            int had = 0;
            for (int code = 0; code < MANY; code++) {
                had += sizes[code];
                sizes[code] = 0;
            }
            return had;
        }

        void copyFrom(Codes other) {
            System.arraycopy(other.acts, 0, acts, 0, acts.length);
            System.arraycopy(other.sizes, 0, sizes, 0, MANY);
        }
    }

    /** The ROWS; one whose LANE is NONE is MISSING. */
    private static final class Rows {
        static final int TRUTH = 0, BYTE = 1, SHORT = 2, INT = 3, LANES = 5;
        static final int MANY = 6, MOST_ITEMS = 16;

        final int[] lanes = new int[MANY];
        final int[] sizes = new int[MANY];
        final long[] items = new long[MANY * MOST_ITEMS];

        Rows() {
            Arrays.fill(lanes, NONE);
        }

        boolean isMissing(int k) {
            return lanes[k] == NONE;
        }

        void lay(int k, int lane, int n) {
            lanes[k] = lane;
            sizes[k] = n;
            Arrays.fill(items, k * MOST_ITEMS, (k + 1) * MOST_ITEMS, 0L);
        }

        void put(int k, int i, long v) {
            items[k * MOST_ITEMS + i] = cast(lanes[k], v);
        }

        private static long cast(int lane, long v) {
            switch (lane) {
                case TRUTH: return v & 1L;
                case BYTE: return (byte) v;
                case SHORT: return (short) v;
                case INT: return (int) v;
                default: return v;
            }
        }

        void copyFrom(Rows other) {
            System.arraycopy(other.lanes, 0, lanes, 0, MANY);
            System.arraycopy(other.sizes, 0, sizes, 0, MANY);
            System.arraycopy(other.items, 0, items, 0, items.length);
        }
    }

    /**
     * THE ORDER. A note is what order() tells from 0 to 33, then the CLOCK that the TRANSACTION made
     * (0: it made none).
     */
    private static final class Notes {
        static final int THREAD = 0, KIND = 1, READ = 2, WRITTEN = 18, TOLD = 34, MADE = 34, NOTE = 35;
        static final int MOST = 60, AT_THE_END = 480;

        final int[] notes = new int[MOST * NOTE];
        // CELLS as check() goes on: 8 sorts, then 8 VALUES.
        private final int[] cells = new int[2 * CELLS];
        int counted = 0;
        // While explore() tries steps, nothing that they do is noted.
        boolean isClosed = false;

        int noted() {
            return Math.min(counted, MOST);
        }

        static boolean isSortPlace(int what) {
            return what >= READ && what < READ + CELLS || what >= WRITTEN && what < WRITTEN + CELLS;
        }

        /** The TRANSACTION of a THREAD, as it COUNTS. */
        void note(int[] now, int t, int made) {
            if (isClosed) return;
            counted++;
            if (counted > MOST) return;
            boolean isPicture = now[At.WAY] == Dealings.PICTURE && now[At.KIND + t] == Dealings.READING;
            int i = isPicture ? placeOf(now[At.START + At.TX * t]) : counted - 1;
            int from = i * NOTE;
            System.arraycopy(notes, from, notes, from + NOTE, (counted - 1 - i) * NOTE);
            notes[from + THREAD] = t;
            notes[from + KIND] = now[At.KIND + t];
            System.arraycopy(now, At.SEEN + At.TX * t, notes, from + READ, 2 * CELLS);
            System.arraycopy(now, At.LOG + At.TX * t, notes, from + WRITTEN, 2 * CELLS);
            notes[from + MADE] = made;
        }

        /** A WRITING outside of TRANSACTIONS, which is one of its own. */
        void noteWriting(int[] now, int t, int x) {
            if (isClosed) return;
            counted++;
            if (counted > MOST) return;
            int from = (counted - 1) * NOTE;
            notes[from + THREAD] = t;
            notes[from + KIND] = Dealings.DOING;
            Arrays.fill(notes, from + READ, from + READ + CELLS, NONE);
            Arrays.fill(notes, from + READ + CELLS, from + WRITTEN, 0);
            Arrays.fill(notes, from + WRITTEN, from + WRITTEN + CELLS, NONE);
            Arrays.fill(notes, from + WRITTEN + CELLS, from + TOLD, 0);
            notes[from + WRITTEN + x] = now[At.SORT + x];
            notes[from + WRITTEN + CELLS + x] = now[At.WHAT + x];
            notes[from + MADE] = now[At.CLOCK];
        }

        /** The place of the first note that made the CLOCK more than start; behind all, if there is none. */
        private int placeOf(int start) {
            for (int i = 0; i < counted - 1; i++) {
                if (notes[i * NOTE + MADE] > start) return i;
            }
            return counted - 1;
        }

        /** What check() answers. */
        int firstWrong(int[] now) {
            System.arraycopy(now, At.FIRST, cells, 0, 2 * CELLS);
            for (int i = 0; i < noted(); i++) {
                int x = firstUnlike(notes, i * NOTE + READ);
                if (x != NONE) return CELLS * i + x;
                writeAll(i * NOTE + WRITTEN);
            }
            int x = firstUnlike(now, At.SORT);
            return x == NONE ? NONE : AT_THE_END + x;
        }

        private int firstUnlike(int[] from, int at) {
            for (int x = 0; x < CELLS; x++) {
                if (from[at + x] == NONE) continue;
                if (from[at + x] != cells[x] || from[at + CELLS + x] != cells[CELLS + x]) return x;
            }
            return NONE;
        }

        private void writeAll(int at) {
            for (int x = 0; x < CELLS; x++) {
                if (notes[at + x] == NONE) continue;
                cells[x] = notes[at + x];
                cells[CELLS + x] = notes[at + CELLS + x];
            }
        }

        void copyFrom(Notes other) {
            System.arraycopy(other.notes, 0, notes, 0, notes.length);
            counted = other.counted;
        }
    }

    /**
     * What TRANSACTIONS do with CELLS, as outcomes of a STEP. By the outcome ANEW the TRANSACTION still
     * has to begin anew: advance() sees to that, for all of them at one place.
     */
    private static final class Dealings {
        static final int CLOCK = 0, EAGER = 1, PICTURE = 2, COARSE = 3, WAYS = 4;
        static final int DOING = 0, READING = 1, WAITING = 2, SURE = 3;

        private final House house;
        private final int[] now;
        // The VALUE that the latest look() met.
        int foundSort = House.NOTHING;
        int foundWhat = 0;

        Dealings(House house) {
            this.house = house;
            now = house.now;
        }

        private boolean isWay(int way) {
            return now[At.WAY] == way;
        }

        private static boolean isOfAnother(int thread, int t) {
            return thread != NONE && thread != t;
        }

        int begin(int t, int kind) {
            if (now[At.KIND + t] != NONE) return Steps.FAILING + Steps.BARRED;
            if (isWay(COARSE) && isOfAnother(now[At.LOCK], t)) return Steps.WAITS;
            if (kind == SURE && now[At.SURE] != NONE) return Steps.WAITS;
            if (isWay(COARSE)) now[At.LOCK] = t;
            if (kind == SURE) now[At.SURE] = t;
            int tx = At.TX * t;
            now[At.KIND + t] = kind;
            now[At.AGE + t] = now[At.BEGUN]++;
            now[At.START + tx] = now[At.CLOCK];
            now[At.BEHIND + tx] = now[At.PLACE + t] + 1;
            now[At.OUTER + tx] = now[At.DEPTH + t];
            System.arraycopy(now, At.REGISTER + REGISTERS * t, now, At.OLD_REGISTER + tx, REGISTERS);
            return Steps.NEXT;
        }

        /** READING a CELL: what is found stands in foundSort and foundWhat, if the outcome is NEXT. */
        int look(int t, int x) {
            if (now[At.KIND + t] == NONE) return lookOutside(t, x);
            int log = At.LOG + At.TX * t + x;
            if (now[log] != NONE) return find(now[log], now[log + CELLS]);
            if (isWay(COARSE)) {
                comeToReads(t, x);
                return see(t, x, 0);
            }
            if (isOfAnother(now[At.HOLDER + x], t)) return Steps.WAITS;
            int rival = rival(t, x);
            if (rival != NONE && !isElder(t, rival)) return Steps.WAITS;
            if (rival != NONE) beginAnew(rival);
            if (now[At.KIND + t] == SURE) {
                now[At.HOLDER + x] = t;
                return see(t, x, 0);
            }
            if (now[At.KIND + t] == READING && isWay(PICTURE)) return lookAtPicture(t, x);
            return lookByClock(t, x);
        }

        private int lookOutside(int t, int x) {
            if (now[At.HOLDER + x] != NONE || isOfAnother(now[At.LOCK], t)) return Steps.WAITS;
            return find(now[At.SORT + x], now[At.WHAT + x]);
        }

        private void comeToReads(int t, int x) {
            int reads = At.READS + At.TX * t + x;
            if (now[reads] == NONE) now[reads] = now[At.VERSION + x];
        }

        private int lookAtPicture(int t, int x) {
            int start = now[At.START + At.TX * t];
            for (int back = 0; back < 4 * At.VALUE; back += At.VALUE) {
                int version = now[At.VERSION + back + x];
                if (version != NONE && version <= start) return see(t, x, back);
            }
            return Steps.ANEW;
        }

        private int lookByClock(int t, int x) {
            int start = At.START + At.TX * t;
            int had = now[At.READS + At.TX * t + x];
            int version = now[At.VERSION + x];
            if (had != NONE && had != version) return Steps.ANEW;
            if (had == NONE && version > now[start]) {
                if (isStale(t)) return Steps.ANEW;
                now[start] = now[At.CLOCK];
            }
            comeToReads(t, x);
            return see(t, x, 0);
        }

        /** Finds a VALUE of a CELL, so far back, and keeps it for THE ORDER, if it is the first READING. */
        private int see(int t, int x, int back) {
            int sort = now[At.SORT + back + x];
            int what = now[At.WHAT + back + x];
            int seen = At.SEEN + At.TX * t + x;
            if (now[seen] == NONE) {
                now[seen] = sort;
                now[seen + CELLS] = what;
            }
            return find(sort, what);
        }

        private int find(int sort, int what) {
            foundSort = sort;
            foundWhat = what;
            return Steps.NEXT;
        }

        /** EAGER: another THREAD that OWNS the CELL: only the ELDER of the two TRANSACTIONS goes on. */
        private int rival(int t, int x) {
            int owner = now[At.OWNER + x];
            return isWay(EAGER) && isOfAnother(owner, t) ? owner : NONE;
        }

        private boolean isElder(int t, int other) {
            if (now[At.KIND + t] == SURE) return true;
            return now[At.KIND + other] != SURE && now[At.AGE + t] < now[At.AGE + other];
        }

        /** WRITING a CELL. */
        int put(int t, int x, int sort, int what) {
            int kind = now[At.KIND + t];
            if (kind == NONE) return putOutside(t, x, sort, what);
            if (kind == READING) return Steps.FAILING + Steps.BARRED;
            if (!isWay(COARSE)) {
                if (isOfAnother(now[At.HOLDER + x], t)) return Steps.WAITS;
                int rival = rival(t, x);
                if (rival != NONE && !isElder(t, rival)) return Steps.WAITS;
                if (rival != NONE) beginAnew(rival);
                if (isWay(EAGER)) now[At.OWNER + x] = t;
                if (kind == SURE) now[At.HOLDER + x] = t;
            }
            now[At.LOG + At.TX * t + x] = sort;
            now[At.LOG + At.TX * t + CELLS + x] = what;
            return Steps.NEXT;
        }

        private int putOutside(int t, int x, int sort, int what) {
            if (now[At.HOLDER + x] != NONE || isOfAnother(now[At.LOCK], t)) return Steps.WAITS;
            if (isOfAnother(now[At.OWNER + x], t)) return Steps.WAITS;
            now[At.BEGUN]++;
            now[At.CLOCK]++;
            house.change(x, sort, what);
            house.notes.noteWriting(now, t, x);
            return Steps.NEXT;
        }

        /** The ACT END. */
        int finish(int t) {
            int kind = now[At.KIND + t];
            if (kind == NONE || now[At.DEPTH + t] > now[At.OUTER + At.TX * t]) return Steps.FAILING + Steps.BARRED;
            if (!isWay(COARSE) && kind != SURE) {
                if (meetsHeld(t)) return Steps.WAITS;
                if (isStale(t)) return Steps.ANEW;
            }
            makeCount(t);
            leave(t);
            return Steps.NEXT;
        }

        private boolean meetsHeld(int t) {
            int tx = At.TX * t;
            for (int x = 0; x < CELLS; x++) {
                boolean uses = now[At.READS + tx + x] != NONE || now[At.LOG + tx + x] != NONE;
                if (uses && isOfAnother(now[At.HOLDER + x], t)) return true;
            }
            return false;
        }

        /** Whether one of READS has another VERSION now. */
        boolean isStale(int t) {
            int reads = At.READS + At.TX * t;
            for (int x = 0; x < CELLS; x++) {
                if (now[reads + x] != NONE && now[reads + x] != now[At.VERSION + x]) return true;
            }
            return false;
        }

        /** IT COUNTS. */
        void makeCount(int t) {
            int log = At.LOG + At.TX * t;
            int made = 0;
            for (int x = 0; x < CELLS; x++) {
                if (now[log + x] == NONE) continue;
                if (made == 0) made = ++now[At.CLOCK];
                house.change(x, now[log + x], now[log + CELLS + x]);
            }
            house.notes.note(now, t, made);
        }

        void bringBackRegisters(int t) {
            System.arraycopy(now, At.OLD_REGISTER + At.TX * t, now, At.REGISTER + REGISTERS * t, REGISTERS);
        }

        /** The THREAD is in no TRANSACTION any more. */
        void leave(int t) {
            release(t, At.OWNER);
            release(t, At.HOLDER);
            unlock(t);
            if (now[At.SURE] == t) now[At.SURE] = NONE;
            now[At.KIND + t] = NONE;
            now[At.AGE + t] = 0;
            house.clearWork(t);
        }

        private void release(int t, int from) {
            for (int x = 0; x < CELLS; x++) {
                if (now[from + x] == t) now[from + x] = NONE;
            }
        }

        private void unlock(int t) {
            if (now[At.LOCK] == t) now[At.LOCK] = NONE;
        }

        /** It BEGINS ANEW. */
        void beginAnew(int t) {
            int tx = At.TX * t;
            house.clearWork(t);
            release(t, At.OWNER);
            bringBackRegisters(t);
            now[At.START + tx] = now[At.CLOCK];
            now[At.DEPTH + t] = now[At.OUTER + tx];
            now[At.PLACE + t] = now[At.BEHIND + tx];
            now[At.ANEWS]++;
            now[At.ANEW_OF + t]++;
        }

        /** What RETRY does where no EITHER stands: to sleep, if nothing of what was read is other by now. */
        int sleep(int t) {
            if (isStale(t)) return Steps.ANEW;
            int log = At.LOG + At.TX * t;
            Arrays.fill(now, log, log + CELLS, NONE);
            Arrays.fill(now, log + CELLS, log + 2 * CELLS, 0);
            release(t, At.OWNER);
            unlock(t);
            now[At.STANDS + t] = House.ASLEEP;
            return Steps.SLEEPS;
        }

        /** A STEP of a THREAD that is ASLEEP. */
        int wake(int t) {
            if (!isStale(t)) return Steps.WAITS;
            if (isWay(COARSE)) {
                if (isOfAnother(now[At.LOCK], t)) return Steps.WAITS;
                now[At.LOCK] = t;
            }
            now[At.STANDS + t] = House.GOING;
            return Steps.ANEW;
        }
    }

    /** STEPS, SCOPES and FAILURES. */
    private static final class Steps {
        // What step() answers.
        static final int WAITS = 0, STEPPED = 1, ANEW = 2, FAILED = 3, ENDED = 4, SLEEPS = 5;
        // An ACT that is done, after which PLACE is one more; a FAILURE f is FAILING + f.
        static final int NEXT = 6, FAILING = 100;
        static final int NULL = 1, INDEX = 2, CAST = 3, ZERO = 4, BARRED = 5, BY_FAIL = 10;

        private final House house;
        private final int[] now;
        private final Dealings dealings;

        Steps(House house) {
            this.house = house;
            now = house.now;
            dealings = new Dealings(house);
        }

        /** A STEP of a THREAD that is GOING or ASLEEP. */
        int advance(int t) {
            int act = house.codes.at(now[At.CODE_OF + t], now[At.PLACE + t]);
            int outcome;
            if (now[At.STANDS + t] == House.ASLEEP) outcome = dealings.wake(t);
            else if (act == NONE) outcome = stop(t);
            else if (house.codes.acts[act] < Codes.BEGIN) outcome = doPlain(t, act);
            else outcome = doBound(t, act);

            if (outcome >= FAILING) outcome = fail(t, outcome - FAILING);
            if (outcome == ANEW) dealings.beginAnew(t);
            if (outcome == NEXT) {
                now[At.PLACE + t]++;
                outcome = STEPPED;
            }
            now[(outcome == WAITS ? At.WAITED_OF : At.DONE_OF) + t]++;
            return outcome;
        }

        /** Where no ACT is. */
        private int stop(int t) {
            if (now[At.KIND + t] != NONE || now[At.DEPTH + t] > 0) return FAILING + INDEX;
            now[At.STANDS + t] = House.ENDED;
            return ENDED;
        }

        /** ACTS on REGISTERS, CELLS and PLACE. */
        private int doPlain(int t, int act) {
            int[] acts = house.codes.acts;
            int a = acts[act + 1];
            int b = acts[act + 2];
            int c = acts[act + 3];
            int r = At.REGISTER + REGISTERS * t;
            int found = NEXT;
            switch (acts[act]) {
                case Codes.SET:
                    now[r + a] = b;
                    return NEXT;
                case Codes.ADD:
                    now[r + a] += now[r + b];
                    return NEXT;
                case Codes.LESS:
                    now[r + a] -= now[r + b];
                    return NEXT;
                case Codes.PART:
                    if (now[r + b] == 0) return FAILING + ZERO;
                    now[r + a] /= now[r + b];
                    return NEXT;
                case Codes.READ:
                    found = dealings.look(t, b);
                    return found == NEXT ? takeNumber(r + a) : found;
                case Codes.WRITE:
                    return dealings.put(t, a, House.NUMBER, now[r + b]);
                case Codes.LINK:
                    return dealings.put(t, a, House.ROW, b);
                case Codes.VOID:
                    return dealings.put(t, a, House.NOTHING, 0);
                case Codes.ITEM:
                    found = dealings.look(t, b);
                    return found == NEXT ? takeItem(r + a, now[r + c]) : found;
                case Codes.JUMP:
                    return jump(t, a);
                default:
                    return now[r + a] == 0 ? jump(t, b) : NEXT;
            }
        }

        /** ACTS of TRANSACTIONS, SCOPES and FAILURES, and BELOW. */
        private int doBound(int t, int act) {
            int[] acts = house.codes.acts;
            int a = acts[act + 1];
            int b = acts[act + 2];
            int r = At.REGISTER + REGISTERS * t;
            int closed = NEXT;
            switch (acts[act]) {
                case Codes.BEGIN:
                    return dealings.begin(t, a);
                case Codes.END:
                    return dealings.finish(t);
                case Codes.RETRY:
                    return retry(t);
                case Codes.EITHER:
                case Codes.NEST:
                case Codes.TRY:
                    return open(t, acts[act], a);
                case Codes.OR:
                    closed = close(t, Codes.EITHER);
                    return closed == NEXT ? jump(t, a) : closed;
                case Codes.JOIN:
                    return close(t, Codes.NEST);
                case Codes.DONE:
                    return close(t, Codes.TRY);
                case Codes.FAIL:
                    return FAILING + BY_FAIL + (now[r + a] & 7);
                default:
                    now[r + a] = now[r + a] < now[r + b] ? 1 : 0;
                    return NEXT;
            }
        }

        private int jump(int t, int place) {
            now[At.PLACE + t] = place;
            return STEPPED;
        }

        private int takeNumber(int register) {
            if (dealings.foundSort == House.NOTHING) return FAILING + NULL;
            if (dealings.foundSort == House.ROW) return FAILING + CAST;
            now[register] = dealings.foundWhat;
            return NEXT;
        }

        private int takeItem(int register, int i) {
            if (dealings.foundSort == House.NOTHING) return FAILING + NULL;
            if (dealings.foundSort == House.NUMBER) return FAILING + CAST;
            int k = dealings.foundWhat;
            if (!isIn(k, Rows.MANY) || house.rows.isMissing(k)) return FAILING + NULL;
            if (!isIn(i, house.rows.sizes[k])) return FAILING + INDEX;
            now[register] = (int) house.rows.items[k * Rows.MOST_ITEMS + i];
            return NEXT;
        }

        private static int scope(int t, int depth) {
            return (At.MOST_SCOPES * t + depth) * At.SCOPE;
        }

        /** How many SCOPES stand outside of the TRANSACTION of a THREAD; without one, none does. */
        private int outer(int t) {
            return now[At.KIND + t] == NONE ? 0 : now[At.OUTER + At.TX * t];
        }

        /** A SCOPE begins, if it may stand here. */
        private int open(int t, int sort, int place) {
            int kind = now[At.KIND + t];
            if (sort == Codes.EITHER && kind != Dealings.WAITING) return FAILING + BARRED;
            if (sort == Codes.NEST && (kind == NONE || kind == Dealings.SURE)) return FAILING + BARRED;
            if (now[At.DEPTH + t] >= At.MOST_SCOPES) return FAILING + BARRED;
            int scope = scope(t, now[At.DEPTH + t]++);
            now[At.SCOPE_SORT + scope] = sort;
            now[At.SCOPE_PLACE + scope] = place;
            // A TRY brings nothing back: what it does not keep must not make houses unlike.
            Arrays.fill(now, At.SCOPE_REGISTER + scope, At.SCOPE_SORT + scope + At.SCOPE, 0);
            if (sort == Codes.TRY) return NEXT;
            System.arraycopy(now, At.REGISTER + REGISTERS * t, now, At.SCOPE_REGISTER + scope, REGISTERS);
            System.arraycopy(now, At.LOG + At.TX * t, now, At.SCOPE_LOG + scope, 2 * CELLS);
            return NEXT;
        }

        /** The innermost SCOPE is done, if it is of this sort and of the same TRANSACTION. */
        private int close(int t, int sort) {
            int depth = now[At.DEPTH + t] - 1;
            if (depth < outer(t) || now[At.SCOPE_SORT + scope(t, depth)] != sort) return FAILING + BARRED;
            now[At.DEPTH + t] = depth;
            return NEXT;
        }

        private void bringBack(int t, int scope) {
            System.arraycopy(now, At.SCOPE_REGISTER + scope, now, At.REGISTER + REGISTERS * t, REGISTERS);
            System.arraycopy(now, At.SCOPE_LOG + scope, now, At.LOG + At.TX * t, 2 * CELLS);
        }

        private int retry(int t) {
            if (now[At.KIND + t] != Dealings.WAITING) return FAILING + BARRED;
            for (int depth = now[At.DEPTH + t] - 1; depth >= outer(t); depth--) {
                int scope = scope(t, depth);
                if (now[At.SCOPE_SORT + scope] != Codes.EITHER) continue;
                bringBack(t, scope);
                now[At.DEPTH + t] = depth;
                return jump(t, now[At.SCOPE_PLACE + scope]);
            }
            return dealings.sleep(t);
        }

        private int fail(int t, int failure) {
            if (isCaught(t, outer(t), failure)) return STEPPED;
            int kind = now[At.KIND + t];
            if (kind == Dealings.SURE) {
                dealings.makeCount(t);
            } else if (kind != NONE) {
                if (dealings.isStale(t)) return ANEW;
                dealings.bringBackRegisters(t);
            }
            if (kind != NONE) dealings.leave(t);
            if (isCaught(t, 0, failure)) return STEPPED;
            now[At.STANDS + t] = House.FAILED;
            now[At.FAILURE + t] = failure;
            return FAILED;
        }

        /** SCOPES go, from the innermost one, till one has a handler or so many as floor are left. */
        private boolean isCaught(int t, int floor, int failure) {
            for (int depth = now[At.DEPTH + t] - 1; depth >= floor; depth--) {
                int scope = scope(t, depth);
                int sort = now[At.SCOPE_SORT + scope];
                now[At.DEPTH + t] = depth;
                if (sort == Codes.EITHER) continue;
                if (sort == Codes.NEST) bringBack(t, scope);
                now[At.REGISTER + REGISTERS * t] = failure;
                now[At.PLACE + t] = now[At.SCOPE_PLACE + scope];
                return true;
            }
            return false;
        }
    }

    /** All that STEPS can make of a house: the houses that were met, each in a row of its own, and the ENDS. */
    private static final class Explorer {
        static final int MOST_HOUSES = 400, END = 19;
        private static final int TABLE = 1024;

        private final House house;
        private final Steps steps;
        private final int[] now;
        private final int[] before = new int[At.ALL];
        private final int[] met = new int[MOST_HOUSES * At.ALL];
        private final int[] hashes = new int[MOST_HOUSES];
        private final boolean[] isStill = new boolean[MOST_HOUSES];
        // At the hash of a house, or behind: its number and one; 0: free.
        private final int[] table = new int[TABLE];
        private int many = 0;

        // The latest explore() that met all: NONE, if there was none.
        final int[] ends = new int[MOST_HOUSES * END];
        int endsMany = NONE;

        Explorer(House house, Steps steps) {
            this.house = house;
            this.steps = steps;
            now = house.now;
        }

        /** What explore() answers. */
        int meetAll(int n) {
            System.arraycopy(now, 0, before, 0, At.ALL);
            house.notes.isClosed = true;
            Arrays.fill(table, 0);
            many = 0;
            boolean metAll = meet(n);
            // many grows on the way, but not above n.
            for (int i = 0; i < n && i < many && metAll; i++) {
                isStill[i] = true;
                for (int t = 0; t < THREADS && metAll; t++) {
                    System.arraycopy(met, i * At.ALL, now, 0, At.ALL);
                    if (!house.canStep(t) || steps.advance(t) == Steps.WAITS) continue;
                    isStill[i] = false;
                    metAll = meet(n);
                }
            }
            house.notes.isClosed = false;
            System.arraycopy(before, 0, now, 0, At.ALL);
            if (!metAll) return NONE - n;
            gatherEnds();
            return many;
        }

        /** The house as it is now is one of those that were met; false: there would be more than n. */
        private boolean meet(int n) {
            rankAges();
            int hash = hash();
            int slot = hash & TABLE - 1;
            for (int tries = 0; tries < TABLE && table[slot] != 0; tries++) {
                int i = table[slot] - 1;
                if (hashes[i] == hash && isLike(i * At.ALL)) return true;
                slot = slot + 1 & TABLE - 1;
            }
            if (many >= n) return false;
            System.arraycopy(now, 0, met, many * At.ALL, At.ALL);
            hashes[many] = hash;
            table[slot] = ++many;
            return true;
        }

        /** AGES become 0, 1, 2: which of two is ELDER is all that counts of them. */
        private void rankAges() {
            int first = rank(0);
            int second = rank(1);
            int third = rank(2);
            now[At.AGE] = first;
            now[At.AGE + 1] = second;
            now[At.AGE + 2] = third;
        }

        private int rank(int t) {
            if (now[At.KIND + t] == NONE) return 0;
            int elder = 0;
            for (int u = 0; u < THREADS; u++) {
                if (now[At.KIND + u] != NONE && now[At.AGE + u] < now[At.AGE + t]) elder++;
            }
            return elder;
        }

        private int hash() {
            int h = 17;
            for (int i = 0; i < At.HEAD; i++) h = 31 * h + now[i];
            return h ^ h >>> 15;
        }

        /** Only what stands is compared: what is left behind in free room makes no house unlike. */
        private boolean isLike(int from) {
            if (!isSame(from, 0, At.HEAD)) return false;
            if (now[At.CLOCK] > 0 && !isSame(from, At.OLDER, At.TRANSACTIONS)) return false;
            for (int t = 0; t < THREADS; t++) {
                int tx = At.TRANSACTIONS + At.TX * t;
                if (now[At.KIND + t] != NONE && !isSame(from, tx, tx + At.TX)) return false;
                int scopes = At.SCOPES + At.MOST_SCOPES * At.SCOPE * t;
                if (!isSame(from, scopes, scopes + At.SCOPE * now[At.DEPTH + t])) return false;
            }
            return true;
        }

        private boolean isSame(int from, int low, int high) {
            for (int i = low; i < high; i++) {
                if (met[from + i] != now[i]) return false;
            }
            return true;
        }

        private void gatherEnds() {
            endsMany = 0;
            for (int i = 0; i < many; i++) {
                if (!isStill[i]) continue;
                int end = endsMany * END;
                System.arraycopy(met, i * At.ALL + At.SORT, ends, end, 2 * CELLS);
                System.arraycopy(met, i * At.ALL + At.STANDS, ends, end + 2 * CELLS, THREADS);
                if (isNewEnd(end)) endsMany++;
            }
        }

        private boolean isNewEnd(int end) {
            for (int other = 0; other < end; other += END) {
                int alike = 0;
                while (alike < END && ends[other + alike] == ends[end + alike]) alike++;
                if (alike == END) return false;
            }
            return true;
        }
    }
}
