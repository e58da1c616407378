import com.sun.management.ThreadMXBean;
import java.lang.management.ManagementFactory;
import java.lang.reflect.Array;
import java.lang.reflect.Field;
import java.lang.reflect.Modifier;
import java.util.Arrays;
import java.util.Collections;
import java.util.IdentityHashMap;
import java.util.Random;
import java.util.Set;

/**
 * All calls of a run live in one room. All rows are made by the constructor: no call of the face
 * makes or keeps an object more, and as many new objects as an object has calls would fit.
 */
public final class RoomTest {
    private static final ThreadMXBean BEAN = (ThreadMXBean) ManagementFactory.getThreadMXBean();
    private static final long ROOM_OBJECTS = 600_000L, ROOM_ELEMENTS = 7_300_000L;
    private static final int CALLS = 512, DRAWN_OBJECTS = 200;

    // The Java machine makes something of its own now and then, in whatever call it happens to be;
    // what a call of the program makes, it makes again on another object with the same calls.
    private static final int REPEATS = 3;

    private static final String[] FACE = {
        "type", "face", "field", "thread", "clear", "action", "begin", "turn", "go", "steps",
        "state", "in", "value", "end", "waits", "start", "log", "list", "through", "needs",
        "search", "points", "stuck", "outcome", "witness", "holds"};

    // How often each was called while what it made was measured, and how often it made something.
    private static final int[] measured = new int[FACE.length];
    private static final int[] making = new int[FACE.length];

    // Of the calls of one object: which of the face it was, and the least that it made.
    private static final int[] drawn = new int[CALLS];
    private static final long[] least = new long[CALLS];
    private static int wrong = 0;
    private static int fullSearches = 0;
    private static int goodSearches = 0;

    public static void main(String[] args) throws IllegalAccessException {
        checkNewObject();
        checkMeasure();
        checkDrawnCalls();
        checkManySearches();
        if (wrong != 0) System.exit(1);
    }

    private static void check(boolean good, String what) {
        if (!good) {
            wrong++;
            System.out.println("not so: " + what);
        }
    }

    private static long made() {
        return BEAN.getThreadAllocatedBytes(Thread.currentThread().getId());
    }

    private static void checkNewObject() throws IllegalAccessException {
        Set<Object> held = held(new TypeStarts());
        long elements = 0;
        for (Object one : held) elements += elementsOf(one);
        System.out.println("a new object: " + held.size() + " objects and arrays, " + elements + " fields and elements");
        check(held.size() * CALLS <= ROOM_OBJECTS, CALLS + " new objects are not too many objects for one room");
        check(elements * CALLS <= ROOM_ELEMENTS, CALLS + " new objects have not too many elements for one room");
    }

    /** The measure itself must see a row that is made, and nothing where nothing is made. */
    private static void checkMeasure() {
        long nothing = Long.MAX_VALUE;
        long aRow = Long.MAX_VALUE;
        for (int i = 0; i < REPEATS; i++) {
            long before = made();
            nothing = Math.min(nothing, made() - before);
            before = made();
            byte[] row = new byte[1000];
            aRow = Math.min(aRow, made() - before);
            check(row.length == 1000, "the row is there");
        }
        check(nothing == 0, "to measure makes nothing");
        check(aRow >= 1000, "a row that is made is seen");
    }

    private static void checkDrawnCalls() throws IllegalAccessException {
        for (int seed = 1; seed <= DRAWN_OBJECTS; seed++) {
            Arrays.fill(least, Long.MAX_VALUE);
            for (int i = 0; i < REPEATS; i++) drawCalls(seed);
            for (int i = 0; i < CALLS; i++) {
                measured[drawn[i]]++;
                if (least[i] != 0) making[drawn[i]]++;
            }
        }
        for (int call = 0; call < FACE.length; call++) {
            check(measured[call] > 0, FACE[call] + " was measured");
            check(making[call] == 0, FACE[call] + " makes nothing, but did in " + making[call] + " of " + measured[call] + " calls");
        }
        check(goodSearches > 0 && fullSearches > 0, "searches found what there is, and too much, too");
        System.out.println(DRAWN_OBJECTS + " times " + REPEATS + " objects of " + CALLS + " drawn calls, "
            + goodSearches + " searches found all, " + fullSearches + " too much");
    }

    /** The calls of one object, each measured; what it holds is what it held when it was new. */
    private static void drawCalls(int seed) throws IllegalAccessException {
        Random random = new Random(seed);
        TypeStarts x = new TypeStarts();
        Set<Object> atFirst = held(x);
        for (int i = 0; i < CALLS; i++) {
            // Calls that build come first, so that there are runs and searches of some size.
            int call = i < CALLS / 4 ? random.nextInt(6) : random.nextInt(FACE.length);
            if (call == 4 && random.nextInt(100) != 0) call = i < CALLS / 4 ? 5 : 20;
            int a = drawnFirst(call, random);
            int b = random.nextInt(8) - 1;
            int c = random.nextInt(7) - 1;
            boolean guarded = random.nextInt(3) == 0;
            int v = b == 1 || b == 5 ? random.nextInt(3) : 0;
            long before = made();
            int answer = call(x, call, a, b, c, v, guarded);
            long more = made() - before;
            drawn[i] = call;
            least[i] = Math.min(least[i], more);
            if (call == 20 && answer >= 0) goodSearches++;
            if (call == 20 && answer == TypeStarts.FULL) fullSearches++;
        }
        Set<Object> atLast = held(x);
        check(atLast.size() == atFirst.size() && atFirst.containsAll(atLast),
            "object " + seed + " holds after its calls what it held when it was new");
    }

    private static int drawnFirst(int call, Random random) {
        if (call == 0) return random.nextInt(3);
        if (call == 5 && random.nextBoolean()) return 10 + random.nextInt(3);
        return random.nextInt(8) - 1;
    }

    private static int call(TypeStarts x, int call, int a, int b, int c, int v, boolean guarded) {
        switch (call) {
            case 0: return x.type(a, a == 0 ? b : -1);
            case 1: return x.face(a, b);
            case 2: return x.field(a);
            case 3: return x.thread();
            case 4: return x.clear();
            case 5: return x.action(a, b, b == 5 ? 0 : c, v, guarded);
            case 6: return x.begin();
            case 7: return x.turn(a);
            case 8: return x.go(a);
            case 9: return x.steps();
            case 10: return x.state(a);
            case 11: return x.in(a);
            case 12: return x.value(a);
            case 13: return x.end(a);
            case 14: return x.waits(a);
            case 15: return x.start(a, b);
            case 16: return x.log(a, b);
            case 17: return x.list(a, b);
            case 18: return x.through(a);
            case 19: return x.needs(a, b);
            case 20: return x.search();
            case 21: return x.points();
            case 22: return x.stuck();
            case 23: return x.outcome(a, b);
            case 24: return x.witness(a, b);
            default: return x.holds();
        }
    }

    private static void checkManySearches() {
        long more = Long.MAX_VALUE;
        for (int i = 0; i < REPEATS; i++) {
            TypeStarts x = new TypeStarts();
            long before = made();
            searchOften(x);
            more = Math.min(more, made() - before);
        }
        check(more == 0, "a run of 235 searches makes nothing, but made " + more + " bytes");
    }

    private static void searchOften(TypeStarts x) {
        for (int t = 0; t < 6; t++) {
            x.type(0, t - 1);
            x.field(t);
        }
        for (int h = 0; h < 3; h++) {
            x.thread();
            for (int i = 0; i < 5; i++) x.action(10 + h, 1, i, h, false);
        }
        for (int i = 0; i < 235; i++) {
            x.search();
            if (x.turn(i % 3) < 1 && x.go(i) == 0) x.begin();
        }
    }

    /** An object and all objects and arrays that are reached from it. */
    private static Set<Object> held(Object one) throws IllegalAccessException {
        Set<Object> found = Collections.newSetFromMap(new IdentityHashMap<>());
        addHeld(one, found);
        return found;
    }

    private static void addHeld(Object one, Set<Object> found) throws IllegalAccessException {
        if (one == null || !found.add(one)) return;
        Class<?> c = one.getClass();
        if (c.isArray()) {
            if (c.getComponentType().isPrimitive()) return;
            for (int i = 0; i < Array.getLength(one); i++) addHeld(Array.get(one, i), found);
            return;
        }
        for (Field f : c.getDeclaredFields()) {
            if (Modifier.isStatic(f.getModifiers()) || f.getType().isPrimitive()) continue;
            f.setAccessible(true);
            addHeld(f.get(one), found);
        }
    }

    private static int elementsOf(Object one) {
        if (one.getClass().isArray()) return Array.getLength(one);
        int own = 0;
        for (Field f : one.getClass().getDeclaredFields()) {
            if (!Modifier.isStatic(f.getModifiers())) own++;
        }
        return own;
    }
}
