import java.util.ArrayList;
import java.util.Arrays;
import java.util.LinkedHashMap;
import java.util.LinkedHashSet;
import java.util.List;
import java.util.Map;
import java.util.TreeMap;

/**
 * The document once more, written apart from the program and with the whole Java library: WAITING is an
 * exception and a copy thrown away, two houses are like if their texts are. Slow, and short.
 */
final class Model {
    static final int NONE = -1, UNKNOWN = -101, OUTSIDE = -102, STATE = -103, FULL = -104, SIZE = -15;
    static final String[] NAMES = {
        "r", "rr", "rr", "rr", "rc", "cr", "cw", "c", "rcr", "p", "rp", "k", "", "", "p", "p", "p", "", "p", "", "r", "rr"};

    record Value(int sort, int what) { }
    record Dated(Value value, int version) { }
    record Act(int kind, int a, int b, int c) { }

    static final class Waits extends Exception { }
    static final class Anew extends Exception { }
    static final class Failure extends Exception {
        final int number;
        Failure(int number) { this.number = number; }
    }

    static final class Scope {
        int sort, place;
        int[] registers;
        TreeMap<Integer, Value> log;
        boolean inside;
        Scope copy() {
            Scope s = new Scope();
            s.sort = sort; s.place = place; s.inside = inside;
            s.registers = registers == null ? null : registers.clone();
            s.log = log == null ? null : new TreeMap<>(log);
            return s;
        }
        String text() { return sort + "@" + place + Arrays.toString(registers) + log + inside; }
    }

    static final class Tx {
        int kind, start, age, behind;
        int[] registers;
        TreeMap<Integer, Integer> reads = new TreeMap<>();
        TreeMap<Integer, Value> seen = new TreeMap<>(), log = new TreeMap<>();
        Tx copy() {
            Tx x = new Tx();
            x.kind = kind; x.start = start; x.age = age; x.behind = behind;
            x.registers = registers.clone();
            x.reads = new TreeMap<>(reads); x.seen = new TreeMap<>(seen); x.log = new TreeMap<>(log);
            return x;
        }
        String text() { return kind + " " + start + " " + behind + Arrays.toString(registers) + reads + seen + log; }
    }

    static final class Worker {
        int stands, place, failure, code, anew, done, waited;
        int[] r = new int[4];
        List<Scope> scopes = new ArrayList<>();
        Tx tx;
        Worker copy() {
            Worker w = new Worker();
            w.stands = stands; w.place = place; w.failure = failure; w.code = code;
            w.anew = anew; w.done = done; w.waited = waited;
            w.r = r.clone();
            for (Scope s : scopes) w.scopes.add(s.copy());
            w.tx = tx == null ? null : tx.copy();
            return w;
        }
        String text() {
            StringBuilder b = new StringBuilder(stands + " " + place + " " + failure + Arrays.toString(r));
            for (Scope s : scopes) b.append(s.text()).append(';');
            return b.append(tx == null ? "-" : tx.text()).toString();
        }
        Scope last() { return scopes.isEmpty() ? null : scopes.get(scopes.size() - 1); }
        Scope pop() { return scopes.remove(scopes.size() - 1); }
    }

    static final class Note {
        int[] told = new int[34];
        int made;
        Note copy() { Note n = new Note(); n.told = told.clone(); n.made = made; return n; }
    }

    static final class Lane {
        int lane;
        long[] items;
        Lane copy() { Lane l = new Lane(); l.lane = lane; l.items = items.clone(); return l; }
    }

    static final class House {
        List<List<Act>> codes = new ArrayList<>();
        Lane[] rows = new Lane[6];
        List<List<Dated>> cells = new ArrayList<>(); // the present VALUE is the last
        Value[] first = new Value[8];
        int[] owned = new int[8], held = new int[8];
        int clock, lock = NONE, way, begun, anews, counted;
        Worker[] workers = {new Worker(), new Worker(), new Worker()};
        List<Note> order = new ArrayList<>();

        House() {
            for (int i = 0; i < 6; i++) codes.add(new ArrayList<>());
            for (int x = 0; x < 8; x++) cells.add(new ArrayList<>(List.of(new Dated(new Value(0, 0), 0))));
            Arrays.fill(owned, NONE);
            Arrays.fill(held, NONE);
            markFirst();
        }
        House copy() {
            House h = new House();
            h.codes.clear();
            for (List<Act> code : codes) h.codes.add(new ArrayList<>(code));
            for (int k = 0; k < 6; k++) h.rows[k] = rows[k] == null ? null : rows[k].copy();
            h.cells.clear();
            for (List<Dated> cell : cells) h.cells.add(new ArrayList<>(cell));
            h.first = first.clone(); h.owned = owned.clone(); h.held = held.clone();
            h.clock = clock; h.lock = lock; h.way = way; h.begun = begun; h.anews = anews; h.counted = counted;
            for (int t = 0; t < 3; t++) h.workers[t] = workers[t].copy();
            for (Note n : order) h.order.add(n.copy());
            return h;
        }
        void markFirst() { for (int x = 0; x < 8; x++) first[x] = present(x); }
        Dated dated(int x) { return cells.get(x).get(cells.get(x).size() - 1); }
        Value present(int x) { return dated(x).value; }
        int version(int x) { return dated(x).version; }
        boolean idle() { return Arrays.stream(workers).allMatch(w -> w.stands == 0); }
        boolean steps(int t) { return workers[t].stands == 1 || workers[t].stands == 4; }
        int sure() {
            for (int t = 0; t < 3; t++) if (workers[t].tx != null && workers[t].tx.kind == 3) return t;
            return NONE;
        }
        String text() {
            StringBuilder b = new StringBuilder();
            b.append(cells).append(Arrays.toString(owned)).append(Arrays.toString(held)).append(clock).append('/').append(lock);
            for (Worker w : workers) b.append('\n').append(w.text());
            for (int t = 0; t < 3; t++) {
                for (int u = 0; u < 3; u++) {
                    Tx a = workers[t].tx, o = workers[u].tx;
                    b.append(a != null && o != null && a.age < o.age ? 'e' : '.');
                }
            }
            return b.toString();
        }

        // ---- STEPS

        /** What step() answers; the counts of STEPS are the caller's. */
        int step(int t) throws Waits {
            Worker w = workers[t];
            try {
                if (w.stands == 4) {
                    if (!stale(w)) throw new Waits();
                    if (way == 3) { if (lock != NONE && lock != t) throw new Waits(); lock = t; }
                    w.stands = 1;
                    throw new Anew();
                }
                List<Act> code = codes.get(w.code);
                if (w.place >= code.size()) {
                    if (w.tx != null || !w.scopes.isEmpty()) throw new Failure(2);
                    w.stands = 2;
                    return 4;
                }
                int was = w.place;
                boolean moved = act(t, w, code.get(was));
                if (w.stands == 4) return 5;
                if (!moved) w.place = was + 1;
                return 1;
            } catch (Anew e) {
                beginAnew(t);
                return 2;
            } catch (Failure f) {
                return fail(t, w, f.number);
            }
        }

        boolean stale(Worker w) {
            for (Map.Entry<Integer, Integer> e : w.tx.reads.entrySet()) if (version(e.getKey()) != e.getValue()) return true;
            return false;
        }

        void beginAnew(int t) {
            Worker w = workers[t];
            w.tx.log.clear(); w.tx.reads.clear(); w.tx.seen.clear();
            disown(owned, t);
            w.tx.start = clock;
            w.r = w.tx.registers.clone();
            w.scopes.removeIf(s -> s.inside);
            w.place = w.tx.behind;
            w.anew++;
            anews++;
        }

        static void disown(int[] of, int t) { for (int x = 0; x < 8; x++) if (of[x] == t) of[x] = NONE; }

        void leave(int t) {
            disown(owned, t);
            disown(held, t);
            if (lock == t) lock = NONE;
            workers[t].tx = null;
        }

        int fail(int t, Worker w, int f) {
            while (w.last() != null && (w.tx == null || w.last().inside)) if (caught(w, f)) return 1;
            if (w.tx != null) {
                if (w.tx.kind == 3) { counts(t); }
                else if (stale(w)) { beginAnew(t); return 2; }
                else { w.r = w.tx.registers.clone(); leave(t); }
                while (w.last() != null) if (caught(w, f)) return 1;
            }
            w.stands = 3;
            w.failure = f;
            return 3;
        }

        boolean caught(Worker w, int f) {
            Scope s = w.pop();
            if (s.sort == 14) return false;
            if (s.sort == 16) { w.r = s.registers.clone(); w.tx.log = new TreeMap<>(s.log); }
            w.r[0] = f;
            w.place = s.place;
            return true;
        }

        void counts(int t) {
            Tx x = workers[t].tx;
            Note n = new Note();
            n.told[0] = t;
            n.told[1] = x.kind;
            for (int c = 0; c < 8; c++) {
                Value s = x.seen.get(c), l = x.log.get(c);
                n.told[2 + c] = s == null ? NONE : s.sort;
                n.told[10 + c] = s == null ? 0 : s.what;
                n.told[18 + c] = l == null ? NONE : l.sort;
                n.told[26 + c] = l == null ? 0 : l.what;
            }
            if (!x.log.isEmpty()) {
                clock++;
                n.made = clock;
                x.log.forEach(this::set);
            }
            counted++;
            if (counted <= 60) {
                int at = order.size();
                if (way == 2 && x.kind == 1) {
                    for (int i = order.size() - 1; i >= 0; i--) if (order.get(i).made > x.start) at = i;
                }
                order.add(at, n);
            }
            leave(t);
        }

        void set(int x, Value v) {
            cells.get(x).add(new Dated(v, clock));
            if (cells.get(x).size() > 4) cells.get(x).remove(0);
        }

        /** true: PLACE is told otherwise. */
        boolean act(int t, Worker w, Act act) throws Waits, Anew, Failure {
            int a = act.a, b = act.b, c = act.c;
            int[] r = w.r;
            switch (act.kind) {
                case 0: r[a] = b; return false;
                case 1: r[a] = r[a] + r[b]; return false;
                case 2: r[a] = r[a] - r[b]; return false;
                case 3: if (r[b] == 0) throw new Failure(4); r[a] = r[a] / r[b]; return false;
                case 4: {
                    Value v = read(t, w, b);
                    if (v.sort != 1) throw new Failure(v.sort == 0 ? 1 : 3);
                    w.r[a] = v.what;
                    return false;
                }
                case 5: write(t, w, a, new Value(1, r[b])); return false;
                case 6: write(t, w, a, new Value(2, b)); return false;
                case 7: write(t, w, a, new Value(0, 0)); return false;
                case 8: {
                    Value v = read(t, w, b);
                    if (v.sort != 2) throw new Failure(v.sort == 0 ? 1 : 3);
                    if (rows[v.what] == null) throw new Failure(1);
                    long[] items = rows[v.what].items;
                    if (w.r[c] < 0 || w.r[c] >= items.length) throw new Failure(2);
                    w.r[a] = (int) items[w.r[c]];
                    return false;
                }
                case 9: w.place = a; return true;
                case 10: if (r[a] != 0) return false; w.place = b; return true;
                case 11: begin(t, w, a); return false;
                case 12: finish(t, w); return false;
                case 13: return retry(t, w);
                case 14: if (w.tx == null || w.tx.kind != 2) throw new Failure(5); open(w, 14, a); return false;
                case 15: close(w, 14); w.place = a; return true;
                case 16: if (w.tx == null || w.tx.kind == 3) throw new Failure(5); open(w, 16, a); return false;
                case 17: close(w, 16); return false;
                case 18: open(w, 18, a); return false;
                case 19: close(w, 18); return false;
                case 20: throw new Failure(10 + (r[a] & 7));
                default: r[a] = r[a] < r[b] ? 1 : 0; return false;
            }
        }

        void open(Worker w, int sort, int place) throws Failure {
            if (w.scopes.size() == 4) throw new Failure(5);
            Scope s = new Scope();
            s.sort = sort;
            s.place = place;
            s.inside = w.tx != null;
            if (sort != 18) { s.registers = w.r.clone(); s.log = new TreeMap<>(w.tx.log); }
            w.scopes.add(s);
        }

        void close(Worker w, int sort) throws Failure {
            Scope s = w.last();
            if (s == null || s.sort != sort || s.inside != (w.tx != null)) throw new Failure(5);
            w.pop();
        }

        void begin(int t, Worker w, int kind) throws Waits, Failure {
            if (w.tx != null) throw new Failure(5);
            if (way == 3 && lock != NONE && lock != t) throw new Waits();
            if (kind == 3 && sure() != NONE) throw new Waits();
            if (way == 3) lock = t;
            w.tx = new Tx();
            w.tx.kind = kind;
            w.tx.start = clock;
            w.tx.age = begun++;
            w.tx.behind = w.place + 1;
            w.tx.registers = w.r.clone();
        }

        void finish(int t, Worker w) throws Waits, Anew, Failure {
            if (w.tx == null || (w.last() != null && w.last().inside)) throw new Failure(5);
            if (way != 3 && w.tx.kind != 3) {
                LinkedHashSet<Integer> used = new LinkedHashSet<>(w.tx.reads.keySet());
                used.addAll(w.tx.log.keySet());
                for (int x : used) if (held[x] != NONE && held[x] != t) throw new Waits();
                if (stale(w)) throw new Anew();
            }
            counts(t);
        }

        boolean retry(int t, Worker w) throws Anew, Failure {
            if (w.tx == null || w.tx.kind != 2) throw new Failure(5);
            if (w.scopes.stream().anyMatch(s -> s.inside && s.sort == 14)) {
                Scope s = w.pop();
                while (s.sort != 14) s = w.pop();
                w.tx.log = new TreeMap<>(s.log);
                w.r = s.registers.clone();
                w.place = s.place;
                return true;
            }
            if (stale(w)) throw new Anew();
            w.tx.log.clear();
            disown(owned, t);
            if (lock == t) lock = NONE;
            w.stands = 4;
            return true;
        }

        void meetOwner(int t, Worker w, int x) throws Waits {
            if (way != 1 || owned[x] == NONE || owned[x] == t) return;
            Tx other = workers[owned[x]].tx;
            boolean elder = w.tx.kind == 3 || other.kind != 3 && w.tx.age < other.age;
            if (!elder) throw new Waits();
            beginAnew(owned[x]);
        }

        Value read(int t, Worker w, int x) throws Waits, Anew {
            if (w.tx == null) {
                if (held[x] != NONE || lock != NONE && lock != t) throw new Waits();
                return present(x);
            }
            Tx tx = w.tx;
            if (tx.log.containsKey(x)) return tx.log.get(x);
            Value v = present(x);
            if (way == 3) {
                tx.reads.putIfAbsent(x, version(x));
            } else {
                if (held[x] != NONE && held[x] != t) throw new Waits();
                meetOwner(t, w, x);
                if (tx.kind == 3) {
                    held[x] = t;
                } else if (tx.kind == 1 && way == 2) {
                    v = null;
                    for (Dated d : cells.get(x)) if (d.version <= tx.start) v = d.value;
                    if (v == null) throw new Anew();
                } else {
                    if (tx.reads.containsKey(x) && tx.reads.get(x) != version(x)) throw new Anew();
                    if (!tx.reads.containsKey(x) && version(x) > tx.start) {
                        if (stale(w)) throw new Anew();
                        tx.start = clock;
                    }
                    tx.reads.putIfAbsent(x, version(x));
                }
            }
            tx.seen.putIfAbsent(x, v);
            return v;
        }

        void write(int t, Worker w, int x, Value v) throws Waits, Failure {
            if (w.tx == null) {
                if (held[x] != NONE || lock != NONE && lock != t) throw new Waits();
                if (owned[x] != NONE && owned[x] != t) throw new Waits();
                begun++;
                clock++;
                set(x, v);
                counted++;
                Note n = new Note();
                n.told[0] = t;
                for (int c = 0; c < 8; c++) n.told[2 + c] = n.told[18 + c] = NONE;
                n.told[18 + x] = v.sort;
                n.told[26 + x] = v.what;
                n.made = clock;
                if (counted <= 60) order.add(n);
                return;
            }
            if (w.tx.kind == 1) throw new Failure(5);
            if (way != 3) {
                if (held[x] != NONE && held[x] != t) throw new Waits();
                meetOwner(t, w, x);
                if (way == 1) owned[x] = t;
                if (w.tx.kind == 3) held[x] = t;
            }
            w.tx.log.put(x, v);
        }
    }

    // ---- the calls

    House h = new House();
    House keptHouse;
    int left = 4000;
    List<int[]> ends;

    static boolean in(int v, int many) { return v >= 0 && v < many; }

    static boolean named(char name, int v) {
        return switch (name) {
            case 'r', 'k' -> in(v, 4);
            case 'c' -> in(v, 8);
            case 'w' -> in(v, 6);
            default -> in(v, 41);
        };
    }

    int act(int code, int kind, int a, int b, int c) {
        if (!in(code, 6)) return UNKNOWN;
        if (!in(kind, 22)) return OUTSIDE;
        int[] given = {a, b, c};
        for (int i = 0; i < NAMES[kind].length(); i++) if (!named(NAMES[kind].charAt(i), given[i])) return OUTSIDE;
        if (!h.idle()) return STATE;
        if (h.codes.get(code).size() == 40) return FULL;
        h.codes.get(code).add(new Act(kind, a, b, c));
        return h.codes.get(code).size() - 1;
    }

    int wipe() {
        if (!h.idle()) return STATE;
        int had = h.codes.stream().mapToInt(List::size).sum();
        h.codes.forEach(List::clear);
        return had;
    }

    int row(int k, int lane, int n) {
        if (!in(k, 6)) return UNKNOWN;
        if (!in(lane, 5) || n > 16) return OUTSIDE;
        if (n < 0) return SIZE;
        h.rows[k] = new Lane();
        h.rows[k].lane = lane;
        h.rows[k].items = new long[n];
        return 0;
    }

    int item(int k, int i, long v) {
        if (!in(k, 6)) return UNKNOWN;
        if (h.rows[k] == null) return STATE;
        if (!in(i, h.rows[k].items.length)) return OUTSIDE;
        h.rows[k].items[i] = switch (h.rows[k].lane) {
            case 0 -> Math.floorMod(v, 2L);
            case 1 -> (byte) v;
            case 2 -> (short) v;
            case 3 -> (int) v;
            default -> v;
        };
        return 0;
    }

    int tear(int k) {
        if (!in(k, 6)) return UNKNOWN;
        if (h.rows[k] == null) return 0;
        h.rows[k] = null;
        return 1;
    }

    int cell(int x, int sort, int v) {
        if (!in(x, 8) || sort == 2 && !in(v, 6)) return UNKNOWN;
        if (!in(sort, 3)) return OUTSIDE;
        if (!h.idle()) return STATE;
        List<Dated> cell = h.cells.get(x);
        cell.set(cell.size() - 1, new Dated(new Value(sort, sort == 0 ? 0 : v), h.version(x)));
        h.markFirst();
        return 0;
    }

    int way(int w) {
        if (!in(w, 4)) return OUTSIDE;
        if (!h.idle()) return STATE;
        int was = h.way;
        h.way = w;
        return was;
    }

    int code(int t, int code) {
        if (!in(t, 3) || !in(code, 6)) return UNKNOWN;
        if (h.workers[t].stands != 0) return STATE;
        h.workers[t].code = code;
        return 0;
    }

    int start(int t) {
        if (!in(t, 3)) return UNKNOWN;
        if (h.workers[t].stands != 0) return STATE;
        h.workers[t].stands = 1;
        return 0;
    }

    int reset() {
        int begun = (int) Arrays.stream(h.workers).filter(w -> w.stands != 0).count();
        House fresh = new House();
        fresh.codes = h.codes;
        fresh.rows = h.rows;
        fresh.way = h.way;
        fresh.begun = h.begun;
        fresh.anews = h.anews;
        for (int t = 0; t < 3; t++) fresh.workers[t].code = h.workers[t].code;
        for (int x = 0; x < 8; x++) fresh.cells.get(x).set(0, new Dated(h.present(x), 0));
        fresh.markFirst();
        h = fresh;
        return begun;
    }

    private int advance(int t) {
        House was = h.copy();
        try {
            int answer = h.step(t);
            h.workers[t].done++;
            return answer;
        } catch (Waits e) {
            h = was;
            h.workers[t].waited++;
            return 0;
        }
    }

    int step(int t) {
        if (!in(t, 3)) return UNKNOWN;
        return h.steps(t) ? advance(t) : STATE;
    }

    int run(int t, int n) {
        if (!in(t, 3)) return UNKNOWN;
        if (!in(n, 201)) return OUTSIDE;
        int used = 0, done = 0, still = 0;
        while (used < n && still < 3) {
            boolean went = false;
            if (h.steps(t)) { used++; went = advance(t) != 0; }
            still = went ? 0 : still + 1;
            if (went) done++;
            t = t == 2 ? 0 : t + 1;
        }
        return done;
    }

    int explore(int n) {
        if (n < 1 || n > 400) return OUTSIDE;
        if (left < n) return STATE;
        left -= n;
        LinkedHashMap<String, House> met = new LinkedHashMap<>();
        List<House> queue = new ArrayList<>();
        List<int[]> still = new ArrayList<>();
        met.put(h.text(), h);
        queue.add(h);
        for (int i = 0; i < queue.size(); i++) {
            boolean stuck = true;
            for (int t = 0; t < 3; t++) {
                House next = queue.get(i).copy();
                if (!next.steps(t)) continue;
                try {
                    next.step(t);
                } catch (Waits e) {
                    continue;
                }
                stuck = false;
                if (met.putIfAbsent(next.text(), next) == null) queue.add(next);
                if (queue.size() > n) return -1 - n;
            }
            if (stuck) {
                int[] end = new int[19];
                for (int x = 0; x < 8; x++) {
                    end[x] = queue.get(i).present(x).sort;
                    end[8 + x] = queue.get(i).present(x).what;
                }
                for (int t = 0; t < 3; t++) end[16 + t] = queue.get(i).workers[t].stands;
                if (still.stream().noneMatch(e -> Arrays.equals(e, end))) still.add(end);
            }
        }
        ends = still;
        return queue.size();
    }

    int end(int i, int what) {
        if (ends == null || i < -1 || i >= ends.size()) return UNKNOWN;
        if (i == -1) return ends.size();
        return in(what, 19) ? ends.get(i)[what] : OUTSIDE;
    }

    int thread(int t, int what) {
        if (!in(t, 3)) return UNKNOWN;
        if (!in(what, 12)) return OUTSIDE;
        Worker w = h.workers[t];
        if (what >= 8) return w.r[what - 8];
        return new int[] {w.stands, w.place, w.failure, w.tx == null ? NONE : w.tx.kind, w.anew, w.done, w.waited, w.scopes.size()}[what];
    }

    int told(int x, int what) {
        if (!in(x, 8)) return UNKNOWN;
        if (!in(what, 14)) return OUTSIDE;
        if (what < 5) return new int[] {h.present(x).sort, h.present(x).what, h.version(x), h.owned[x], h.held[x]}[what];
        Tx tx = h.workers[(what - 5) % 3].tx;
        if (what < 8) return tx == null ? NONE : tx.reads.getOrDefault(x, NONE);
        Value v = tx == null ? null : tx.log.get(x);
        if (what < 11) return v == null ? NONE : v.sort;
        return v == null ? 0 : v.what;
    }

    int count(int what) {
        if (!in(what, 8)) return OUTSIDE;
        return new int[] {h.clock, h.counted, h.order.size(), h.begun, h.anews, h.lock, h.sure(), h.way}[what];
    }

    int order(int i, int what) {
        if (!in(i, h.order.size())) return UNKNOWN;
        return in(what, 34) ? h.order.get(i).told[what] : OUTSIDE;
    }

    int forge(int i, int what, int v) {
        if (!in(i, h.order.size())) return UNKNOWN;
        if (!in(what - 2, 32)) return OUTSIDE;
        boolean sort = in(what - 2, 8) || in(what - 18, 8);
        if (sort && !in(v + 1, 4)) return OUTSIDE;
        int was = h.order.get(i).told[what];
        h.order.get(i).told[what] = v;
        return was;
    }

    int check() {
        if (h.counted > 60) return STATE;
        Value[] now = h.first.clone();
        for (int i = 0; i < h.order.size(); i++) {
            int[] n = h.order.get(i).told;
            for (int x = 0; x < 8; x++) {
                if (n[2 + x] != NONE && !now[x].equals(new Value(n[2 + x], n[10 + x]))) return 8 * i + x;
            }
            for (int x = 0; x < 8; x++) if (n[18 + x] != NONE) now[x] = new Value(n[18 + x], n[26 + x]);
        }
        for (int x = 0; x < 8; x++) if (!now[x].equals(h.present(x))) return 480 + x;
        return NONE;
    }

    int keep() {
        keptHouse = h.copy();
        return 0;
    }

    int back() {
        if (keptHouse == null) return STATE;
        h = keptHouse.copy();
        return 0;
    }

    long digest() {
        long d = 41;
        for (int x = 0; x < 8; x++) for (int what = 0; what < 14; what++) d = 31 * d + told(x, what);
        for (int t = 0; t < 3; t++) for (int what = 0; what < 12; what++) d = 31 * d + thread(t, what);
        for (int what = 0; what < 8; what++) d = 31 * d + count(what);
        return d;
    }
}
