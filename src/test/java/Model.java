import java.util.ArrayDeque;
import java.util.ArrayList;
import java.util.Arrays;
import java.util.Collections;
import java.util.HashMap;
import java.util.HashSet;
import java.util.LinkedHashSet;
import java.util.List;
import java.util.Map;
import java.util.Set;
import java.util.TreeMap;

/**
 * The document told a second time, with the Java library and without care for room: what
 * TypeStarts is compared with. It shares no code and, where it could, no way of working with it.
 */
final class Model {
    private static final int NONE = -1, BAD = -2, STATE = -3, FULL = -4;

    private static final class Type {
        int sort;
        int parent;
        boolean field;
        final List<Integer> faces = new ArrayList<>();
    }

    private record Action(int kind, int a, int v, boolean guarded) {
    }

    private static final class Frame {
        int body;
        boolean inList;
        int lastBegun = NONE;
        int done;
        int latest;

        Frame copy() {
            Frame f = new Frame();
            f.body = body;
            f.inList = inList;
            f.lastBegun = lastBegun;
            f.done = done;
            f.latest = latest;
            return f;
        }

        @Override
        public String toString() {
            return body + (inList ? "L" + lastBegun : "B" + done) + "/" + latest;
        }
    }

    private static final class Point {
        final int[] state = new int[6];
        final int[] in = new int[6];
        final int[] value = new int[6];
        final List<List<Frame>> threads = new ArrayList<>();
        final List<Integer> ends = new ArrayList<>();

        Point copy() {
            Point p = new Point();
            System.arraycopy(state, 0, p.state, 0, 6);
            System.arraycopy(in, 0, p.in, 0, 6);
            System.arraycopy(value, 0, p.value, 0, 6);
            for (List<Frame> frames : threads) {
                List<Frame> copied = new ArrayList<>();
                for (Frame f : frames) {
                    copied.add(f.copy());
                }
                p.threads.add(copied);
            }
            p.ends.addAll(ends);
            return p;
        }

        String key() {
            StringBuilder b = new StringBuilder();
            for (int t = 0; t < 6; t++) {
                b.append(state[t]).append(state[t] == 1 ? "@" + in[t] : "").append(',').append(value[t]).append(';');
            }
            for (int t = 0; t < threads.size(); t++) {
                b.append('|').append(ends.get(t) >= 0 ? "E" + ends.get(t) : threads.get(t).toString());
            }
            return b.toString();
        }
    }

    private static final class TooMany extends Exception {
        private static final long serialVersionUID = 1L;
    }

    int pointLimit = 3000;
    int outcomeLimit = 60;

    private final List<Type> types = new ArrayList<>();
    private int threadCount = 0;
    private final Map<Integer, List<Action>> bodies = new HashMap<>();
    private Point now = new Point();
    private int steps = 0;
    private final List<int[]> log = new ArrayList<>();

    private boolean found = false;
    private int pointCount;
    private final List<int[]> outcomes = new ArrayList<>();
    private final List<String> witnesses = new ArrayList<>();

    private boolean noType(int t) {
        return t < 0 || t >= types.size();
    }

    private boolean noThread(int t) {
        return t < 0 || t >= threadCount;
    }

    private List<Action> actions(int body) {
        return bodies.computeIfAbsent(body, b -> new ArrayList<>());
    }

    private void atFirst() {
        now = new Point();
        for (int t = 0; t < threadCount; t++) {
            Frame f = new Frame();
            f.body = 10 + t;
            now.threads.add(new ArrayList<>(List.of(f)));
            now.ends.add(-1);
        }
        steps = 0;
        log.clear();
        found = false;
    }

    // ---- what there is

    int type(int sort, int parent) {
        if (parent != -1 && noType(parent)) return NONE;
        if (sort != 0 && sort != 1 && sort != 2) return BAD;
        if (parent != -1 && types.get(parent).sort != 0) return STATE;
        if (parent != -1 && sort != 0) return STATE;
        if (types.size() == 6) return FULL;
        Type t = new Type();
        t.sort = sort;
        t.parent = parent;
        types.add(t);
        atFirst();
        return types.size() - 1;
    }

    int face(int type, int face) {
        if (noType(type) || noType(face)) return NONE;
        if (types.get(face).sort == 0 || face >= type || types.get(type).faces.contains(face)) return STATE;
        if (types.get(type).faces.size() == 3) return FULL;
        types.get(type).faces.add(face);
        atFirst();
        return types.get(type).faces.size();
    }

    int field(int type) {
        if (noType(type)) return NONE;
        if (types.get(type).field) return STATE;
        types.get(type).field = true;
        atFirst();
        return 1;
    }

    int thread() {
        if (threadCount == 3) return FULL;
        threadCount++;
        atFirst();
        return threadCount - 1;
    }

    int clear() {
        int n = types.size();
        types.clear();
        threadCount = 0;
        bodies.clear();
        atFirst();
        return n;
    }

    int action(int body, int kind, int a, int v, boolean guarded) {
        boolean is = body >= 0 && body < types.size() || body >= 10 && body < 10 + threadCount;
        if (!is) return NONE;
        if (Set.of(0, 1, 2, 3).contains(kind) && noType(a)) return NONE;
        if (!Set.of(0, 1, 2, 3, 4, 5).contains(kind)) return BAD;
        if (kind == 4 && a != 1 && a != 2) return BAD;
        if (kind == 5 && a != 0) return BAD;
        if ((kind == 1 || kind == 5) && (v < -9 || v > 9)) return BAD;
        if (kind != 1 && kind != 5 && v != 0) return BAD;
        if (actions(body).size() == 5) return FULL;
        actions(body).add(new Action(kind, a, v, guarded));
        atFirst();
        return actions(body).size();
    }

    // ---- what follows

    private List<Integer> listOf(int type) {
        Set<Integer> all = new LinkedHashSet<>();
        Type t = types.get(type);
        if (t.sort != 0) return new ArrayList<>();
        if (t.parent != -1) all.add(t.parent);
        tellFaces(type, all);
        return new ArrayList<>(all);
    }

    private void tellFaces(int type, Set<Integer> all) {
        for (int face : types.get(type).faces) {
            tellFaces(face, all);
            if (types.get(face).sort == 2) all.add(face);
        }
    }

    private int throughOf(int type) {
        Type t = types.get(type);
        if (t.field) return type;
        for (int face : t.faces) {
            int there = throughOf(face);
            if (there >= 0) return there;
        }
        return t.parent == -1 ? NONE : throughOf(t.parent);
    }

    /** What an ACTION asks for; -1 nothing; -5: 5 is thrown. */
    private int asks(int body, Action x) {
        if (x.kind == 2) return x.a;
        if (x.kind > 2) return -1;
        int owner = throughOf(x.a);
        if (owner < 0) return -5;
        if (x.kind == 1 && types.get(owner).sort != 0 && body != owner) return -5;
        return owner;
    }

    // ---- a step

    private static Frame topOf(Point p, int thread) {
        List<Frame> frames = p.threads.get(thread);
        return frames.get(frames.size() - 1);
    }

    private static boolean goodFor(Point p, int thread, int type) {
        return p.state[type] == 2 || p.state[type] == 1 && p.in[type] == thread;
    }

    private int comesTo(Point p, int thread) {
        Frame f = topOf(p, thread);
        if (f.inList) {
            for (int other : listOf(f.body)) {
                if (!goodFor(p, thread, other)) return other;
            }
            return -1;
        }
        List<Action> text = actions(f.body);
        return f.done == text.size() ? -1 : asks(f.body, text.get(f.done));
    }

    private int waitsFor(Point p, int thread) {
        if (p.ends.get(thread) >= 0) return -1;
        int type = comesTo(p, thread);
        return type >= 0 && p.state[type] == 1 && p.in[type] != thread ? type : -1;
    }

    private boolean able(Point p, int thread) {
        return p.ends.get(thread) < 0 && waitsFor(p, thread) < 0;
    }

    private void stepOf(Point p, int thread, List<int[]> rows) {
        Frame f = topOf(p, thread);
        int type = comesTo(p, thread);
        if (f.inList) {
            if (type < 0) {
                f.inList = false;
            } else if (p.state[type] == 3) {
                thrownByStart(p, thread, 4, rows);
            } else {
                f.lastBegun = type;
                begins(p, thread, type, rows);
            }
            return;
        }
        List<Action> text = actions(f.body);
        if (f.done == text.size()) {
            over(p, thread, f, rows);
            return;
        }
        Action x = text.get(f.done);
        if (type == -5) {
            thrownByAction(p, thread, 5, rows);
        } else if (x.kind == 4) {
            thrownByAction(p, thread, x.a, rows);
        } else if (x.kind == 3) {
            f.done++;
        } else if (x.kind == 5) {
            f.done = f.latest == x.v ? text.size() : f.done + 1;
        } else if (p.state[type] == 0) {
            begins(p, thread, type, rows);
        } else if (p.state[type] == 3) {
            thrownByAction(p, thread, 4, rows);
        } else {
            if (x.kind == 0) {
                f.latest = p.value[type];
                rows.add(new int[] {thread, 3, f.latest});
            }
            if (x.kind == 1) p.value[type] = x.v;
            f.done++;
        }
    }

    private static void begins(Point p, int thread, int type, List<int[]> rows) {
        p.state[type] = 1;
        p.in[type] = thread;
        Frame f = new Frame();
        f.body = type;
        f.inList = true;
        p.threads.get(thread).add(f);
        rows.add(new int[] {thread, 0, type});
    }

    private static void over(Point p, int thread, Frame f, List<int[]> rows) {
        if (f.body >= 10) {
            p.ends.set(thread, 0);
            rows.add(new int[] {thread, 5, 0});
        } else {
            p.state[f.body] = 2;
            p.threads.get(thread).remove(p.threads.get(thread).size() - 1);
            rows.add(new int[] {thread, 1, f.body});
        }
    }

    private void thrownByAction(Point p, int thread, int number, List<int[]> rows) {
        Frame f = topOf(p, thread);
        if (actions(f.body).get(f.done).guarded) {
            f.done++;
            rows.add(new int[] {thread, 4, number});
        } else if (f.body >= 10) {
            p.ends.set(thread, number);
            rows.add(new int[] {thread, 5, number});
        } else {
            thrownByStart(p, thread, number == 1 ? 3 : number, rows);
        }
    }

    private void thrownByStart(Point p, int thread, int number, List<int[]> rows) {
        Frame f = topOf(p, thread);
        p.state[f.body] = 3;
        p.threads.get(thread).remove(p.threads.get(thread).size() - 1);
        rows.add(new int[] {thread, 2, f.body});
        if (topOf(p, thread).inList) {
            thrownByStart(p, thread, number, rows);
        } else {
            thrownByAction(p, thread, number, rows);
        }
    }

    // ---- the run

    int begin() {
        int n = steps;
        atFirst();
        return n;
    }

    private void make(int thread) {
        stepOf(now, thread, log);
        steps++;
        found = false;
    }

    int turn(int thread) {
        if (noThread(thread)) return NONE;
        if (now.ends.get(thread) >= 0) return STATE;
        if (waitsFor(now, thread) >= 0) return 0;
        make(thread);
        return 1;
    }

    int go(int seed) {
        long z = seed;
        int n = 0;
        while (true) {
            List<Integer> those = new ArrayList<>();
            for (int t = 0; t < threadCount; t++) {
                if (able(now, t)) those.add(t);
            }
            if (those.isEmpty()) return n;
            z = (z * 1664525L + 1013904223L) & 0xFFFFFFFFL;
            make(those.get((int) ((z >> 8) % those.size())));
            n++;
        }
    }

    int steps() {
        return steps;
    }

    int state(int type) {
        return noType(type) ? NONE : now.state[type];
    }

    int in(int type) {
        return noType(type) || now.state[type] != 1 ? NONE : now.in[type];
    }

    int value(int type) {
        return noType(type) || !types.get(type).field ? -1000 : now.value[type];
    }

    private int endOf(Point p, int thread) {
        if (p.ends.get(thread) >= 0) return 2 + p.ends.get(thread);
        return waitsFor(p, thread) >= 0 ? 1 : 0;
    }

    int end(int thread) {
        return noThread(thread) ? NONE : endOf(now, thread);
    }

    int waits(int thread) {
        return noThread(thread) ? NONE : waitsFor(now, thread);
    }

    int start(int thread, int i) {
        if (noThread(thread) || i < 0 || i >= now.threads.get(thread).size() - 1) return NONE;
        return now.threads.get(thread).get(i + 1).body;
    }

    int log(int i, int what) {
        return i < 0 || i >= log.size() || what < 0 || what > 2 ? -1000 : log.get(i)[what];
    }

    // ---- what is needed, all runs

    int list(int type, int i) {
        return noType(type) || i < 0 || i >= listOf(type).size() ? NONE : listOf(type).get(i);
    }

    int through(int type) {
        return noType(type) ? NONE : throughOf(type);
    }

    private Set<Integer> firstNeeds(int type) {
        Set<Integer> all = new HashSet<>(listOf(type));
        for (Action x : actions(type)) {
            all.add(asks(type, x));
        }
        all.removeAll(Arrays.asList(-1, -5, type));
        return all;
    }

    private boolean reaches(int type, int other) {
        Set<Integer> seen = new HashSet<>();
        ArrayDeque<Integer> open = new ArrayDeque<>(firstNeeds(type));
        while (!open.isEmpty()) {
            int next = open.poll();
            if (seen.add(next)) open.addAll(firstNeeds(next));
        }
        return seen.contains(other);
    }

    int needs(int type, int other) {
        if (noType(type) || noType(other)) return NONE;
        return reaches(type, other) ? 1 : 0;
    }

    int search() {
        found = false;
        outcomes.clear();
        witnesses.clear();
        Map<String, TreeMap<int[], String>> known = new HashMap<>();
        TreeMap<int[], String> all;
        try {
            all = endsFrom(now, known);
        } catch (TooMany e) {
            return FULL;
        }
        pointCount = known.size();
        if (all.size() > outcomeLimit) return FULL;
        for (Map.Entry<int[], String> e : all.entrySet()) {
            outcomes.add(e.getKey());
            witnesses.add(e.getValue());
        }
        found = true;
        return outcomes.size();
    }

    /** Of each OUTCOME from a POINT on the least row of THREADS that leads to it. */
    private TreeMap<int[], String> endsFrom(Point p, Map<String, TreeMap<int[], String>> known) throws TooMany {
        String key = p.key();
        TreeMap<int[], String> mine = known.get(key);
        if (mine != null) return mine;
        mine = new TreeMap<>(Arrays::compare);
        known.put(key, mine);
        if (known.size() > pointLimit) throw new TooMany();
        boolean any = false;
        // From the last THREAD on: the least row must win by comparison, not by coming first.
        for (int t = threadCount - 1; t >= 0; t--) {
            if (!able(p, t)) continue;
            any = true;
            Point next = p.copy();
            stepOf(next, t, new ArrayList<>());
            for (Map.Entry<int[], String> e : endsFrom(next, known).entrySet()) {
                mine.merge(e.getKey(), t + e.getValue(), (a, b) -> Collections.min(List.of(a, b)));
            }
        }
        if (!any) mine.put(outcomeOf(p), "");
        return mine;
    }

    private int[] outcomeOf(Point p) {
        int[] o = new int[15];
        for (int t = 0; t < threadCount; t++) {
            o[t] = endOf(p, t);
        }
        System.arraycopy(p.state, 0, o, 3, 6);
        System.arraycopy(p.value, 0, o, 9, 6);
        return o;
    }

    int points() {
        return found ? pointCount : STATE;
    }

    int stuck() {
        if (!found) return STATE;
        int n = 0;
        for (int[] o : outcomes) {
            if (o[0] == 1 || o[1] == 1 || o[2] == 1) n++;
        }
        return n;
    }

    int outcome(int i, int what) {
        return !found || i < 0 || i >= outcomes.size() || what < 0 || what > 14 ? -1000 : outcomes.get(i)[what];
    }

    int witness(int i, int k) {
        if (!found) return STATE;
        if (i < 0 || i >= witnesses.size() || k < 0 || k >= witnesses.get(i).length()) return NONE;
        return witnesses.get(i).charAt(k) - '0';
    }

    int holds() {
        if (!found) return STATE;
        if (stuck() == 0) return 1;
        for (int t = 0; t < types.size(); t++) {
            if (reaches(t, t)) return 1;
        }
        return 0;
    }
}
