import java.util.Arrays;

/**
 * A house in which types start: when something of a type is used first, its parent, the
 * interfaces that need it and its own text are worked once, by one thread, others waiting.
 * The words in capitals are those of the document.
 */
public final class TypeStarts {
    public static final int NONE = -1, BAD = -2, STATE = -3, FULL = -4;

    private static final int TYPES = 6, FACES = 3, THREADS = 3, ACTIONS = 5;

    // BODIES go by one number inside: those of TYPES first, those of THREADS behind them.
    private static final int BODIES = TYPES + THREADS;
    private static final int FIRST_THREAD_BODY = 10;

    private static final int CLASS = 0, WITH_DEFAULT = 2;
    private static final int READ = 0, WRITE = 1, USE = 2, PASS = 3, THROW = 4, LEAVE = 5;
    private static final int EXCEPTION = 1, ERROR = 2, START_ERROR = 3, NOT_FOUND = 4, NO_FIELD = 5;
    private static final int NEW = 0, UNDER_WAY = 1, DONE = 2, FAILED = 3;
    private static final int LOG_BEGINS = 0, LOG_DONE = 1, LOG_FAILED = 2;
    private static final int LOG_READ = 3, LOG_CAUGHT = 4, LOG_END = 5;
    private static final int HAS_STEP = 0, WAITING = 1, ENDED_WELL = 2;

    private static final int MOST_NUMBER = 9;
    private static final int NO_NUMBER = -1000;

    // A START begins, leaves its LIST, works its ACTIONS and is DONE, once; a THREAD works and ends.
    private static final int MOST_STEPS = TYPES * (ACTIONS + 3) + THREADS * (ACTIONS + 1);

    // Each TYPE BEGINS and is over once, each ACTION tells at most one thing, each THREAD ends once.
    private static final int MOST_ROWS = 2 * TYPES + BODIES * ACTIONS + THREADS;

    private static final int MOST_POINTS = 3000, MOST_OUTCOMES = 60;
    private static final int OUTCOME_NUMBERS = THREADS + 2 * TYPES;

    private final Types types = new Types();
    private final Bodies bodies = new Bodies(types);
    private final Run run = new Run(types, bodies);
    private final Search allRuns = new Search(types, bodies);

    // How many OUTCOMES were found; NONE: not looked for since the last change; FULL: too many.
    private int searched = NONE;

    public TypeStarts() {
    }

    // ---- what there is

    public int type(int sort, int parent) {
        boolean hasParent = parent != NONE;
        if (hasParent && !types.has(parent)) {
            return NONE;
        }
        if (sort < CLASS || sort > WITH_DEFAULT) {
            return BAD;
        }
        if (hasParent && (sort != CLASS || !types.isClass(parent))) {
            return STATE;
        }
        if (types.count >= TYPES) {
            return FULL;
        }
        types.addType(sort, parent);
        settle();
        return types.count - 1;
    }

    public int face(int type, int face) {
        if (!types.has(type) || !types.has(face)) {
            return NONE;
        }
        if (types.isClass(face) || face >= type || types.hasFace(type, face)) {
            return STATE;
        }
        if (types.faceCount[type] >= FACES) {
            return FULL;
        }
        types.addFace(type, face);
        settle();
        return types.faceCount[type];
    }

    public int field(int type) {
        if (!types.has(type)) {
            return NONE;
        }
        if (types.hasField[type]) {
            return STATE;
        }
        types.addField(type);
        settle();
        return 1;
    }

    public int thread() {
        if (bodies.threadCount >= THREADS) {
            return FULL;
        }
        bodies.threadCount++;
        settle();
        return bodies.threadCount - 1;
    }

    public int clear() {
        int before = types.count;
        types.removeAll();
        bodies.removeAll();
        settle();
        return before;
    }

    public int action(int body, int kind, int a, int v, boolean guarded) {
        int inner = bodies.innerBody(body);
        if (inner == NONE || kind >= READ && kind <= PASS && !types.has(a)) {
            return NONE;
        }
        if (!Bodies.isInRange(kind, a, v)) {
            return BAD;
        }
        if (bodies.count[inner] >= ACTIONS) {
            return FULL;
        }
        bodies.addAction(inner, kind, a, v, guarded);
        settle();
        return bodies.count[inner];
    }

    // ---- the run

    public int begin() {
        int before = run.steps;
        startAnew();
        return before;
    }

    public int turn(int thread) {
        if (!bodies.hasThread(thread)) {
            return NONE;
        }
        int end = run.endOf(thread);
        if (end >= ENDED_WELL) {
            return STATE;
        }
        if (end == WAITING) {
            return 0;
        }
        makeStep(thread);
        return 1;
    }

    public int go(int seed) {
        int z = seed;
        for (int made = 0; made < MOST_STEPS; made++) {
            int able = run.ableThreads();
            int n = Integer.bitCount(able);
            if (n == 0) {
                return made;
            }
            z = z * 1664525 + 1013904223;
            makeStep(memberAt(able, (z >>> 8) % n));
        }
        return MOST_STEPS;
    }

    public int steps() {
        return run.steps;
    }

    public int state(int type) {
        return types.has(type) ? run.state[type] : NONE;
    }

    public int in(int type) {
        return types.has(type) && run.state[type] == UNDER_WAY ? run.worker[type] : NONE;
    }

    public int value(int type) {
        return types.has(type) && types.hasField[type] ? run.value[type] : NO_NUMBER;
    }

    public int end(int thread) {
        return bodies.hasThread(thread) ? run.endOf(thread) : NONE;
    }

    public int waits(int thread) {
        return bodies.hasThread(thread) ? run.awaited(thread) : NONE;
    }

    public int start(int thread, int i) {
        if (!bodies.hasThread(thread) || i < 0 || i >= run.depth[thread]) {
            return NONE;
        }
        return run.stack[thread][i];
    }

    public int log(int i, int what) {
        return run.log.numberAt(i, what);
    }

    // ---- what is needed, all runs

    public int list(int type, int i) {
        if (!types.has(type) || i < 0 || i >= types.listLength[type]) {
            return NONE;
        }
        return types.rows[type][i];
    }

    public int through(int type) {
        return types.has(type) ? types.owner[type] : NONE;
    }

    public int needs(int type, int other) {
        if (!types.has(type) || !types.has(other)) {
            return NONE;
        }
        return bodies.isNeeded(type, other) ? 1 : 0;
    }

    public int search() {
        if (searched == NONE) {
            searched = allRuns.explore(run);
        }
        return searched;
    }

    public int points() {
        return isFound() ? allRuns.points.count : STATE;
    }

    public int stuck() {
        return isFound() ? allRuns.outcomes.countStuck() : STATE;
    }

    public int outcome(int i, int what) {
        return isFound() ? allRuns.outcomes.numberAt(i, what) : NO_NUMBER;
    }

    public int witness(int i, int k) {
        return isFound() ? allRuns.outcomes.witnessAt(i, k) : STATE;
    }

    public int holds() {
        if (!isFound()) {
            return STATE;
        }
        return allRuns.outcomes.countStuck() == 0 || bodies.someNeedsItself() ? 1 : 0;
    }

    /** Of a set of THREADS, a bit for each, the one at a place; NONE, if there are fewer. */
    private static int memberAt(int set, int position) {
        int before = 0;
        for (int thread = 0; thread < THREADS; thread++) {
            if ((set >> thread & 1) != 0) {
                if (before == position) {
                    return thread;
                }
                before++;
            }
        }
        return NONE;
    }

    private boolean isFound() {
        return searched >= 0;
    }

    private void settle() {
        types.settle();
        bodies.settle();
        startAnew();
    }

    private void startAnew() {
        run.reset();
        searched = NONE;
    }

    private void makeStep(int thread) {
        run.step(thread);
        searched = NONE;
    }

    /** The TYPES, and what follows from them: whose FIELD each one reaches, and its LIST. */
    private static final class Types {
        int count = 0;
        final boolean[] hasField = new boolean[TYPES];
        final int[] faceCount = new int[TYPES];
        final int[] owner = new int[TYPES];

        // A CLASS's row is its LIST; an INTERFACE's is what it brings to the LISTS of others.
        final int[][] rows = new int[TYPES][TYPES];
        final int[] listLength = new int[TYPES];
        private final int[] rowLength = new int[TYPES];
        private final int[] sort = new int[TYPES];
        private final int[] parent = new int[TYPES];
        private final int[][] faces = new int[TYPES][FACES];

        boolean has(int type) {
            return type >= 0 && type < count;
        }

        boolean isClass(int type) {
            return sort[type] == CLASS;
        }

        boolean hasFace(int type, int face) {
            for (int i = 0; i < faceCount[type]; i++) {
                if (faces[type][i] == face) {
                    return true;
                }
            }
            return false;
        }

        void removeAll() {
            count = 0;
        }

        void addType(int newSort, int newParent) {
            sort[count] = newSort;
            parent[count] = newParent;
            faceCount[count] = 0;
            hasField[count] = false;
            count++;
        }

        void addFace(int type, int face) {
            faces[type][faceCount[type]] = face;
            faceCount[type]++;
        }

        void addField(int type) {
            hasField[type] = true;
        }

        // PARENTS and FACES come before their TYPE, so one pass upwards is enough.
        void settle() {
            for (int type = 0; type < count; type++) {
                owner[type] = findOwner(type);
                fillRow(type);
                listLength[type] = isClass(type) ? rowLength[type] : 0;
            }
        }

        private int findOwner(int type) {
            if (hasField[type]) {
                return type;
            }
            for (int i = 0; i < faceCount[type]; i++) {
                int reached = owner[faces[type][i]];
                if (reached != NONE) {
                    return reached;
                }
            }
            return parent[type] == NONE ? NONE : owner[parent[type]];
        }

        private void fillRow(int type) {
            rowLength[type] = 0;
            if (parent[type] != NONE) {
                addToRow(type, parent[type]);
            }
            for (int i = 0; i < faceCount[type]; i++) {
                int face = faces[type][i];
                for (int k = 0; k < rowLength[face]; k++) {
                    addToRow(type, rows[face][k]);
                }
            }
            if (sort[type] == WITH_DEFAULT) {
                addToRow(type, type);
            }
        }

        private void addToRow(int type, int entry) {
            int length = rowLength[type];
            for (int i = 0; i < length; i++) {
                if (rows[type][i] == entry) {
                    return;
                }
            }
            if (length < TYPES) {
                rows[type][length] = entry;
                rowLength[type] = length + 1;
            }
        }
    }

    /** The THREADS and the ACTIONS of all BODIES. */
    private static final class Bodies {
        int threadCount = 0;
        final int[] count = new int[BODIES];
        final int[][] kinds = new int[BODIES][ACTIONS];
        final int[][] numbers = new int[BODIES][ACTIONS];

        // What follows from the TYPES: what each ACTION ASKS FOR, or NONE; and what it throws
        // whatever the RUN is, or 0.
        final int[][] asked = new int[BODIES][ACTIONS];
        final int[][] thrown = new int[BODIES][ACTIONS];
        private final Types types;
        private final int[][] operands = new int[BODIES][ACTIONS];

        // Of each BODY a bit for each GUARDED ACTION.
        private final int[] guards = new int[BODIES];

        Bodies(Types types) {
            this.types = types;
        }

        boolean hasThread(int thread) {
            return thread >= 0 && thread < threadCount;
        }

        int innerBody(int body) {
            if (types.has(body)) {
                return body;
            }
            // The lower bound comes first: far below it the difference would wrap.
            if (body >= FIRST_THREAD_BODY && hasThread(body - FIRST_THREAD_BODY)) {
                return TYPES + body - FIRST_THREAD_BODY;
            }
            return NONE;
        }

        static boolean isInRange(int kind, int a, int v) {
            if (kind < READ || kind > LEAVE) {
                return false;
            }
            if (kind == THROW && (a < EXCEPTION || a > ERROR) || kind == LEAVE && a != 0) {
                return false;
            }
            int most = kind == WRITE || kind == LEAVE ? MOST_NUMBER : 0;
            return v >= -most && v <= most;
        }

        void removeAll() {
            threadCount = 0;
            Arrays.fill(count, 0);
            Arrays.fill(guards, 0);
        }

        void addAction(int body, int kind, int a, int v, boolean guarded) {
            int place = count[body];
            kinds[body][place] = kind;
            operands[body][place] = a;
            numbers[body][place] = v;
            if (guarded) {
                guards[body] |= 1 << place;
            }
            count[body] = place + 1;
        }

        boolean isGuarded(int body, int place) {
            return (guards[body] >> place & 1) != 0;
        }

        void settle() {
            for (int body = 0; body < BODIES; body++) {
                for (int place = 0; place < count[body]; place++) {
                    settleAction(body, place);
                }
            }
        }

        private void settleAction(int body, int place) {
            int kind = kinds[body][place];
            int a = operands[body][place];
            asked[body][place] = NONE;
            thrown[body][place] = 0;
            if (kind == USE) {
                asked[body][place] = a;
            } else if (kind == THROW) {
                thrown[body][place] = a;
            } else if (kind == READ || kind == WRITE) {
                int owner = types.owner[a];
                boolean isFixed = kind == WRITE && owner != NONE && owner != body && !types.isClass(owner);
                if (owner == NONE || isFixed) {
                    thrown[body][place] = NO_FIELD;
                } else {
                    asked[body][place] = owner;
                }
            }
        }

        boolean isNeeded(int type, int other) {
            return (allNeeded(type) >> other & 1) != 0;
        }

        boolean someNeedsItself() {
            for (int type = 0; type < types.count; type++) {
                if (isNeeded(type, type)) {
                    return true;
                }
            }
            return false;
        }

        // A round that adds anything adds a TYPE, so as many rounds as TYPES are enough.
        private int allNeeded(int type) {
            int found = firstNeeded(type);
            for (int round = 0; round < TYPES; round++) {
                for (int other = 0; other < types.count; other++) {
                    if ((found >> other & 1) != 0) {
                        found |= firstNeeded(other);
                    }
                }
            }
            return found;
        }

        private int firstNeeded(int type) {
            int found = 0;
            for (int i = 0; i < types.listLength[type]; i++) {
                found |= 1 << types.rows[type][i];
            }
            for (int place = 0; place < count[type]; place++) {
                int other = asked[type][place];
                if (other != NONE && other != type) {
                    found |= 1 << other;
                }
            }
            return found;
        }
    }

    /** THE LOG of a RUN. */
    private static final class Log {
        private static final int COLUMNS = 3;
        private int length = 0;
        private final int[] cells = new int[MOST_ROWS * COLUMNS];

        void empty() {
            length = 0;
        }

        void add(int thread, int event, int number) {
            if (length >= MOST_ROWS) {
                return;
            }
            int at = length * COLUMNS;
            cells[at] = thread;
            cells[at + 1] = event;
            cells[at + 2] = number;
            length++;
        }

        int numberAt(int i, int what) {
            if (i < 0 || i >= length || what < 0 || what >= COLUMNS) {
                return NO_NUMBER;
            }
            return cells[i * COLUMNS + what];
        }
    }

    /** Where a RUN stands. What stands in no THREAD has zeros, so that same POINTS look the same. */
    private static final class Run {
        int steps = 0;
        final Log log = new Log();
        final int[] state = new int[TYPES];
        final int[] worker = new int[TYPES];
        final int[] value = new int[TYPES];
        final int[][] stack = new int[THREADS][TYPES];
        final int[] depth = new int[THREADS];
        private final Types types;
        private final Bodies bodies;
        private final int[] level = new int[TYPES];
        private final boolean[] inList = new boolean[TYPES];

        // In a LIST: behind the last entry that BEGAN from there. In a BODY: ahead of which ACTION.
        private final int[] place = new int[BODIES];
        private final int[] latest = new int[BODIES];

        // 0, or as end() tells it.
        private final int[] ended = new int[THREADS];

        Run(Types types, Bodies bodies) {
            this.types = types;
            this.bodies = bodies;
        }

        void reset() {
            steps = 0;
            log.empty();
            Arrays.fill(value, 0);
            Arrays.fill(depth, 0);
            Arrays.fill(ended, 0);
            Arrays.fill(place, 0);
            Arrays.fill(latest, 0);
            for (int type = 0; type < TYPES; type++) {
                takeAway(type, NEW);
            }
        }

        /** The TYPE for which a THREAD WAITS, or NONE. */
        int awaited(int thread) {
            if (ended[thread] != 0) {
                return NONE;
            }
            int body = top(thread);
            int type = NONE;
            if (isInList(body)) {
                int next = nextInList(thread, body);
                type = next == NONE ? NONE : types.rows[body][next];
            } else if (place[body] < bodies.count[body]) {
                type = bodies.asked[body][place[body]];
            }
            return type != NONE && state[type] == UNDER_WAY && worker[type] != thread ? type : NONE;
        }

        int endOf(int thread) {
            if (ended[thread] != 0) {
                return ended[thread];
            }
            return awaited(thread) == NONE ? HAS_STEP : WAITING;
        }

        /** The THREADS that have a STEP, a bit for each. */
        int ableThreads() {
            int able = 0;
            for (int thread = 0; thread < bodies.threadCount; thread++) {
                if (endOf(thread) == HAS_STEP) {
                    able |= 1 << thread;
                }
            }
            return able;
        }

        /** The STEP of a THREAD that has one. */
        void step(int thread) {
            steps++;
            int body = top(thread);
            if (isInList(body)) {
                stepInList(thread, body);
            } else if (place[body] < bodies.count[body]) {
                stepAction(thread, body);
            } else {
                finish(thread, body);
            }
        }

        private int top(int thread) {
            return depth[thread] == 0 ? TYPES + thread : stack[thread][depth[thread] - 1];
        }

        private boolean isInList(int body) {
            return body < TYPES && inList[body];
        }

        private int nextInList(int thread, int type) {
            for (int i = place[type]; i < types.listLength[type]; i++) {
                int other = types.rows[type][i];
                if (state[other] != DONE && (state[other] != UNDER_WAY || worker[other] != thread)) {
                    return i;
                }
            }
            return NONE;
        }

        private void stepInList(int thread, int type) {
            int next = nextInList(thread, type);
            if (next == NONE) {
                inList[type] = false;
                place[type] = 0;
                return;
            }
            int other = types.rows[type][next];
            if (state[other] == FAILED) {
                raise(thread, NOT_FOUND);
            } else {
                place[type] = next + 1;
                enter(thread, other);
            }
        }

        private void stepAction(int thread, int body) {
            int thrown = bodies.thrown[body][place[body]];
            int asked = bodies.asked[body][place[body]];
            if (thrown != 0) {
                raise(thread, thrown);
            } else if (asked != NONE && state[asked] == FAILED) {
                raise(thread, NOT_FOUND);
            } else if (asked != NONE && state[asked] == NEW) {
                enter(thread, asked);
            } else {
                perform(thread, body, asked);
            }
        }

        private void perform(int thread, int body, int asked) {
            int at = place[body];
            int kind = bodies.kinds[body][at];
            int number = bodies.numbers[body][at];
            place[body] = at + 1;
            if (kind == LEAVE && latest[body] == number) {
                place[body] = bodies.count[body];
            } else if (kind == READ && asked != NONE) {
                latest[body] = value[asked];
                log.add(thread, LOG_READ, value[asked]);
            } else if (kind == WRITE && asked != NONE) {
                value[asked] = number;
            }
        }

        private void enter(int thread, int type) {
            int height = depth[thread];
            if (height >= TYPES) {
                return;
            }
            state[type] = UNDER_WAY;
            worker[type] = thread;
            level[type] = height;
            inList[type] = true;
            stack[thread][height] = type;
            depth[thread] = height + 1;
            log.add(thread, LOG_BEGINS, type);
        }

        private void finish(int thread, int body) {
            if (body < TYPES) {
                depth[thread]--;
                takeAway(body, DONE);
                log.add(thread, LOG_DONE, body);
            } else {
                endThread(thread, 0);
            }
        }

        /** A number is thrown by what is on top: each START that it goes through stands there no more. */
        private void raise(int thread, int thrown) {
            int number = thrown;
            for (int fallen = 0; fallen <= TYPES; fallen++) {
                int body = top(thread);
                boolean byAction = !isInList(body);
                if (byAction && bodies.isGuarded(body, place[body])) {
                    place[body]++;
                    log.add(thread, LOG_CAUGHT, number);
                    return;
                }
                if (body >= TYPES) {
                    endThread(thread, number);
                    return;
                }
                if (byAction && number == EXCEPTION) {
                    number = START_ERROR;
                }
                depth[thread]--;
                takeAway(body, FAILED);
                log.add(thread, LOG_FAILED, body);
            }
        }

        private void takeAway(int type, int newState) {
            state[type] = newState;
            worker[type] = 0;
            level[type] = 0;
            inList[type] = false;
            place[type] = 0;
            latest[type] = 0;
        }

        private void endThread(int thread, int number) {
            ended[thread] = ENDED_WELL + number;
            place[TYPES + thread] = 0;
            latest[TYPES + thread] = 0;
            log.add(thread, LOG_END, number);
        }

        /** The POINT in three longs: three TYPES of 21 bits each, three more, and the THREADS. */
        void pack(long[] rows, int at) {
            rows[at] = packTypes(0);
            rows[at + 1] = packTypes(TYPES / 2);
            long packed = 0;
            for (int thread = 0; thread < THREADS; thread++) {
                int body = TYPES + thread;
                packed = packed << 3 | ended[thread];
                packed = packed << 3 | place[body];
                packed = packed << 5 | latest[body] + MOST_NUMBER;
            }
            rows[at + 2] = packed;
        }

        private long packTypes(int first) {
            long packed = 0;
            for (int type = first; type < first + TYPES / 2; type++) {
                packed = packed << 2 | state[type];
                packed = packed << 2 | worker[type];
                packed = packed << 3 | level[type];
                packed = packed << 1 | (inList[type] ? 1 : 0);
                packed = packed << 3 | place[type];
                packed = packed << 5 | latest[type] + MOST_NUMBER;
                packed = packed << 5 | value[type] + MOST_NUMBER;
            }
            return packed;
        }

        void unpack(long[] rows, int at) {
            log.empty();
            Arrays.fill(depth, 0);
            unpackTypes(0, rows[at]);
            unpackTypes(TYPES / 2, rows[at + 1]);
            long packed = rows[at + 2];
            for (int thread = THREADS - 1; thread >= 0; thread--) {
                int body = TYPES + thread;
                latest[body] = (int) (packed & 31) - MOST_NUMBER;
                place[body] = (int) (packed >> 5 & 7);
                ended[thread] = (int) (packed >> 8 & 7);
                packed >>= 11;
            }
        }

        private void unpackTypes(int first, long row) {
            long packed = row;
            for (int type = first + TYPES / 2 - 1; type >= first; type--) {
                int bits = (int) (packed & 0x1FFFFF);
                value[type] = (bits & 31) - MOST_NUMBER;
                latest[type] = (bits >> 5 & 31) - MOST_NUMBER;
                place[type] = bits >> 10 & 7;
                inList[type] = (bits >> 13 & 1) != 0;
                level[type] = bits >> 14 & 7;
                worker[type] = bits >> 17 & 3;
                state[type] = bits >> 19 & 3;
                if (state[type] == UNDER_WAY) {
                    stack[worker[type]][level[type]] = type;
                    depth[worker[type]]++;
                }
                packed >>= 21;
            }
        }

        /** The OUTCOME in one long, the first number highest: longs are in order as OUTCOMES are. */
        long packOutcome() {
            long packed = 0;
            for (int thread = 0; thread < THREADS; thread++) {
                packed = packed << 3 | (bodies.hasThread(thread) ? endOf(thread) : 0);
            }
            for (int type = 0; type < TYPES; type++) {
                packed = packed << 2 | state[type];
            }
            for (int type = 0; type < TYPES; type++) {
                packed = packed << 5 | value[type] + MOST_NUMBER;
            }
            return packed;
        }
    }

    /** The POINTS that were come to, each once. */
    private static final class Points {
        static final int WIDTH = 3;
        static final int OLD = -1;
        private static final int SLOT_BITS = 12, SLOTS = 1 << SLOT_BITS;

        // Four slots are kept in one long: what counts in the room is elements, not their width.
        private static final int SLOTS_TOGETHER = 4, SLOT_WIDTH = 16;
        int count = 0;

        // One row more than may be kept: a POINT is packed there to be looked up.
        final long[] rows = new long[(MOST_POINTS + 1) * WIDTH];

        // A POINT's number and 1; 0: free. There are more slots than POINTS.
        private final long[] slots = new long[SLOTS / SLOTS_TOGETHER];

        void empty() {
            count = 0;
            Arrays.fill(slots, 0);
        }

        /** The number of a POINT that is new; OLD; or FULL. */
        int add(Run run) {
            int at = count * WIDTH;
            run.pack(rows, at);
            int slot = firstSlot(at);
            for (int tries = 0; tries < SLOTS && slotAt(slot) != 0; tries++) {
                if (isSame((slotAt(slot) - 1) * WIDTH, at)) {
                    return OLD;
                }
                slot = slot + 1 & SLOTS - 1;
            }
            if (count >= MOST_POINTS) {
                return FULL;
            }
            count++;
            fillSlot(slot, count);
            return count - 1;
        }

        private int slotAt(int slot) {
            long together = slots[slot / SLOTS_TOGETHER];
            return (int) (together >>> slot % SLOTS_TOGETHER * SLOT_WIDTH) & (1 << SLOT_WIDTH) - 1;
        }

        private void fillSlot(int free, int number) {
            slots[free / SLOTS_TOGETHER] |= (long) number << free % SLOTS_TOGETHER * SLOT_WIDTH;
        }

        private int firstSlot(int at) {
            long mixed = (rows[at] * 31 + rows[at + 1]) * 31 + rows[at + 2];
            mixed ^= mixed >>> 32;
            return (int) (mixed * 0x9E3779B97F4A7C15L >>> 64 - SLOT_BITS);
        }

        private boolean isSame(int one, int other) {
            return rows[one] == rows[other]
                && rows[one + 1] == rows[other + 1]
                && rows[one + 2] == rows[other + 2];
        }
    }

    /** The OUTCOMES in order, each with its WITNESS. */
    private static final class Outcomes {
        // A STEP's THREAD takes two bits, so a row of a WITNESS is a few longs.
        private static final int STEP_BITS = 2, STEPS_TOGETHER = 64 / STEP_BITS;
        private static final int ROW_LONGS = (MOST_STEPS + STEPS_TOGETHER - 1) / STEPS_TOGETHER;
        int count = 0;
        private final long[] packed = new long[MOST_OUTCOMES];

        // Rows of WITNESSES stay where they came: here is which one an OUTCOME has.
        private final int[] row = new int[MOST_OUTCOMES];
        private final int[] lengths = new int[MOST_OUTCOMES];
        private final long[] witnesses = new long[MOST_OUTCOMES * ROW_LONGS];

        void empty() {
            count = 0;
            Arrays.fill(witnesses, 0);
        }

        /** Keeps an OUTCOME, if it is new, with the way to it; false: there is no room. */
        boolean add(long outcome, int[] way, int length) {
            int position = 0;
            while (position < count && packed[position] < outcome) {
                position++;
            }
            if (position < count && packed[position] == outcome) {
                return true;
            }
            if (count >= MOST_OUTCOMES) {
                return false;
            }
            for (int i = count; i > position; i--) {
                packed[i] = packed[i - 1];
                row[i] = row[i - 1];
            }
            packed[position] = outcome;
            row[position] = count;
            keepWitness(count, way, length);
            count++;
            return true;
        }

        private void keepWitness(int rowNumber, int[] way, int length) {
            int first = rowNumber * ROW_LONGS;
            for (int k = 0; k < length; k++) {
                witnesses[first + k / STEPS_TOGETHER] |= (long) way[k] << k % STEPS_TOGETHER * STEP_BITS;
            }
            lengths[rowNumber] = length;
        }

        int countStuck() {
            int stuck = 0;
            for (int i = 0; i < count; i++) {
                if (isStuck(i)) {
                    stuck++;
                }
            }
            return stuck;
        }

        private boolean isStuck(int i) {
            for (int thread = 0; thread < THREADS; thread++) {
                if (numberAt(i, thread) == WAITING) {
                    return true;
                }
            }
            return false;
        }

        int numberAt(int i, int what) {
            if (i < 0 || i >= count || what < 0 || what >= OUTCOME_NUMBERS) {
                return NO_NUMBER;
            }
            int fieldBits = 5 * TYPES;
            if (what < THREADS) {
                return (int) (packed[i] >> fieldBits + 2 * TYPES + 3 * (THREADS - 1 - what) & 7);
            }
            if (what < THREADS + TYPES) {
                return (int) (packed[i] >> fieldBits + 2 * (THREADS + TYPES - 1 - what) & 3);
            }
            return (int) (packed[i] >> 5 * (OUTCOME_NUMBERS - 1 - what) & 31) - MOST_NUMBER;
        }

        int witnessAt(int i, int k) {
            if (i < 0 || i >= count || k < 0 || k >= lengths[row[i]]) {
                return NONE;
            }
            long together = witnesses[row[i] * ROW_LONGS + k / STEPS_TOGETHER];
            return (int) (together >>> k % STEPS_TOGETHER * STEP_BITS) & (1 << STEP_BITS) - 1;
        }
    }

    /**
     * ALL RUNS, gone through deepest first and THREAD 0 first. No RUN comes to a POINT twice, so
     * the first way that is found to a POINT is the least of all ways to it.
     */
    private static final class Search {
        // A POINT is gone on from once for each THREAD, and then left.
        private static final int MOST_ROUNDS = MOST_POINTS * (THREADS + 1);
        final Points points = new Points();
        final Outcomes outcomes = new Outcomes();
        private final Run here;
        private int depth = 0;

        // The way to where the search is: POINTS, the THREADS still to be tried there, whose STEPS.
        private final int[] trail = new int[MOST_STEPS + 1];
        private final int[] untried = new int[MOST_STEPS + 1];
        private final int[] way = new int[MOST_STEPS + 1];

        Search(Types types, Bodies bodies) {
            this.here = new Run(types, bodies);
        }

        /** How many OUTCOMES there are from where a RUN stands, or FULL. */
        int explore(Run from) {
            points.empty();
            outcomes.empty();
            depth = 0;
            boolean fits = arrive(from);
            for (int round = 0; round < MOST_ROUNDS && fits && depth > 0; round++) {
                int last = depth - 1;
                int thread = memberAt(untried[last], 0);
                if (thread == NONE) {
                    depth = last;
                    continue;
                }
                untried[last] ^= 1 << thread;
                way[last] = thread;
                here.unpack(points.rows, trail[last] * Points.WIDTH);
                here.step(thread);
                fits = arrive(here);
            }
            return fits ? outcomes.count : FULL;
        }

        /** A RUN stands at the end of the way; false: that is one POINT or OUTCOME too many. */
        private boolean arrive(Run run) {
            int point = points.add(run);
            if (point == Points.OLD) {
                return true;
            }
            if (point == FULL) {
                return false;
            }
            int able = run.ableThreads();
            if (able == 0) {
                return outcomes.add(run.packOutcome(), way, depth);
            }
            if (depth <= MOST_STEPS) {
                trail[depth] = point;
                untried[depth] = able;
                depth++;
            }
            return true;
        }
    }
}
