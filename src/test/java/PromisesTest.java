/** For each promise of the document calls whose answers were worked out by hand from its words. */
public final class PromisesTest extends Cases {
    public static void main(String[] args) {
        about("promise 1"); newObject();
        about("promise 2"); type();
        about("promise 3"); face();
        about("promise 4"); field();
        about("promise 5"); thread();
        about("promise 6"); clear();
        about("promise 7"); action();
        about("promise 8"); begin();
        about("promise 9"); turn(); turnThrows(); turnLeaves();
        about("promise 10"); go();
        about("promise 11"); steps();
        about("promise 12"); state();
        about("promise 13"); in();
        about("promise 14"); value();
        about("promise 15"); end();
        about("promise 16"); waits();
        about("promise 17"); start();
        about("promise 18"); log();
        about("promise 19"); list();
        about("promise 20"); through();
        about("promise 21"); needs();
        about("promise 22"); search(); searchLimits();
        about("promise 23"); points();
        about("promise 24"); stuck();
        about("promise 25"); outcome();
        about("promise 26"); witness();
        about("promise 27"); holds();
        endWith("all promises hold");
    }

    private static void newObject() {
        TypeStarts x = new TypeStarts();
        due("state(0)", x.state(0), NONE);
        due("end(0)", x.end(0), NONE);
        due("steps()", x.steps(), 0);
        due("go(1)", x.go(1), 0);
        due("log(0, 0)", x.log(0, 0), -1000);
        due("points()", x.points(), STATE);
        due("outcome(0, 0)", x.outcome(0, 0), -1000);
        due("clear()", x.clear(), 0);
        due("type(0, -1)", x.type(0, -1), 0);
        due("thread()", x.thread(), 0);
    }

    private static void type() {
        TypeStarts x = new TypeStarts();
        due("type(0, 0)", x.type(0, 0), NONE);
        due("type(7, 0)", x.type(7, 0), NONE);
        due("type(1, -2)", x.type(1, -2), NONE);
        due("type(0, MOST)", x.type(0, MOST), NONE);
        due("type(0, LEAST)", x.type(0, LEAST), NONE);
        due("type(-1, -1)", x.type(-1, -1), BAD);
        due("type(3, -1)", x.type(3, -1), BAD);
        due("type(0, -1)", x.type(0, -1), 0);
        due("type(1, -1)", x.type(1, -1), 1);
        due("type(2, -1)", x.type(2, -1), 2);
        due("type(3, 1)", x.type(3, 1), BAD);
        due("type(0, 1)", x.type(0, 1), STATE);
        due("type(0, 2)", x.type(0, 2), STATE);
        due("type(1, 0)", x.type(1, 0), STATE);
        due("type(2, 0)", x.type(2, 0), STATE);
        due("type(0, 3)", x.type(0, 3), NONE);
        due("type(0, 0)", x.type(0, 0), 3);
        listIs(x, 3, 0);
        listIs(x, 0);
        due("type(0, 3)", x.type(0, 3), 4);
        due("type(2, -1)", x.type(2, -1), 5);
        due("type(0, -1)", x.type(0, -1), FULL);
        due("type(0, 6)", x.type(0, 6), NONE);
        due("type(9, -1)", x.type(9, -1), BAD);
        due("type(1, 0)", x.type(1, 0), STATE);
    }

    private static void face() {
        TypeStarts x = new TypeStarts();
        due("face(0, 0)", x.face(0, 0), NONE);
        x.type(1, -1);
        x.type(2, -1);
        x.type(1, -1);
        x.type(1, -1);
        x.type(0, -1);
        due("face(5, 0)", x.face(5, 0), NONE);
        due("face(0, 5)", x.face(0, 5), NONE);
        due("face(-1, 0)", x.face(-1, 0), NONE);
        due("face(4, -1)", x.face(4, -1), NONE);
        due("face(4, LEAST)", x.face(4, LEAST), NONE);
        due("face(0, 1)", x.face(0, 1), STATE);
        due("face(1, 1)", x.face(1, 1), STATE);
        due("face(4, 4)", x.face(4, 4), STATE);
        due("face(4, 2)", x.face(4, 2), 1);
        due("face(4, 2)", x.face(4, 2), STATE);
        due("face(4, 1)", x.face(4, 1), 2);
        due("face(4, 0)", x.face(4, 0), 3);
        due("face(4, 1)", x.face(4, 1), STATE);
        due("face(4, 3)", x.face(4, 3), FULL);
        due("face(1, 0)", x.face(1, 0), 1);
        x.type(0, 4);
        due("face(5, 4)", x.face(5, 4), STATE);
        due("face(5, 3)", x.face(5, 3), 1);
    }

    private static void field() {
        TypeStarts x = new TypeStarts();
        due("field(0)", x.field(0), NONE);
        due("field(-1)", x.field(-1), NONE);
        x.type(0, -1);
        x.type(1, -1);
        due("field(2)", x.field(2), NONE);
        due("value(1)", x.value(1), -1000);
        due("field(1)", x.field(1), 1);
        due("field(1)", x.field(1), STATE);
        due("value(1)", x.value(1), 0);
        due("value(0)", x.value(0), -1000);
        due("field(0)", x.field(0), 1);
    }

    private static void thread() {
        TypeStarts x = new TypeStarts();
        due("thread()", x.thread(), 0);
        due("end(0)", x.end(0), 0);
        due("end(1)", x.end(1), NONE);
        due("turn(0)", x.turn(0), 1);
        due("end(0)", x.end(0), 2);
        due("thread()", x.thread(), 1);
        due("end(0) of the RUN as at first", x.end(0), 0);
        due("steps()", x.steps(), 0);
        due("thread()", x.thread(), 2);
        due("turn(2)", x.turn(2), 1);
        due("thread()", x.thread(), FULL);
        due("end(2), for FULL is not done", x.end(2), 2);
    }

    private static void clear() {
        TypeStarts x = ring();
        x.clear();
        x = classes(2, 1);
        x.action(10, 4, 1, 0, true);
        x.go(1);
        due("clear()", x.clear(), 2);
        due("clear()", x.clear(), 0);
        due("state(0)", x.state(0), NONE);
        due("end(0)", x.end(0), NONE);
        due("steps()", x.steps(), 0);
        due("log(0, 0)", x.log(0, 0), -1000);
        due("action(10, ..)", x.action(10, 4, 1, 0, false), NONE);
        due("type(0, -1)", x.type(0, -1), 0);
        due("value(0)", x.value(0), -1000);
        due("thread()", x.thread(), 0);
        due("action(0, ..)", x.action(0, 3, 0, 0, false), 1);
        due("action(10, ..)", x.action(10, 4, 1, 0, false), 1);
        due("turn(0), GUARDED no more", x.turn(0), 1);
        due("end(0)", x.end(0), 3);
        due("type(1, -1)", x.type(1, -1), 1);
        x.type(0, -1);
        due("face(2, 1)", x.face(2, 1), 1);
        x.clear();
        x.type(1, -1);
        x.type(1, -1);
        x.type(0, -1);
        due("face(2, 1)", x.face(2, 1), 1);
    }

    private static void action() {
        TypeStarts x = classes(2, 1);
        int[] noBodies = {-1, 2, 5, 6, 9, 11, 12, 13, MOST, LEAST, LEAST + 9};
        for (int body : noBodies) due("action(" + body + ", 4, 1)", x.action(body, 4, 1, 0, false), NONE);
        due("action(11, 9)", x.action(11, 9, 0, 0, false), NONE);
        for (int kind = 0; kind < 4; kind++) {
            due("action(0, " + kind + ", 2)", x.action(0, kind, 2, 0, false), NONE);
            due("action(0, " + kind + ", -1, 99)", x.action(0, kind, -1, 99, false), NONE);
        }
        due("kind 6", x.action(0, 6, 0, 0, false), BAD);
        due("kind -1", x.action(0, -1, 0, 0, false), BAD);
        due("kind 6, a 9", x.action(0, 6, 9, 0, false), BAD);
        due("THROW 0", x.action(0, 4, 0, 0, false), BAD);
        due("THROW 3", x.action(0, 4, 3, 0, false), BAD);
        due("THROW v 1", x.action(0, 4, 1, 1, false), BAD);
        due("READ v 1", x.action(0, 0, 0, 1, false), BAD);
        due("USE v -1", x.action(0, 2, 0, -1, false), BAD);
        due("PASS v 1", x.action(0, 3, 0, 1, false), BAD);
        due("WRITE 10", x.action(0, 1, 0, 10, false), BAD);
        due("WRITE -10", x.action(0, 1, 0, -10, false), BAD);
        due("LEAVE 10", x.action(0, 5, 0, 10, false), BAD);
        due("LEAVE -10", x.action(0, 5, 0, -10, false), BAD);
        due("LEAVE a 1", x.action(0, 5, 1, 0, false), BAD);
        due("LEAVE a -1", x.action(0, 5, -1, 0, false), BAD);
        due("WRITE 9", x.action(0, 1, 0, 9, false), 1);
        due("WRITE -9", x.action(0, 1, 1, -9, false), 2);
        due("LEAVE 9", x.action(0, 5, 0, 9, false), 3);
        due("LEAVE -9", x.action(0, 5, 0, -9, true), 4);
        due("THROW 2", x.action(0, 4, 2, 0, true), 5);
        due("a sixth", x.action(0, 3, 0, 0, false), FULL);
        due("a sixth, BAD", x.action(0, 3, 0, 1, false), BAD);
        due("a sixth, NONE", x.action(0, 3, 4, 1, false), NONE);
        due("action(1, READ)", x.action(1, 0, 0, 0, false), 1);
        due("action(10, PASS)", x.action(10, 3, 1, 0, false), 1);
        due("action(10, THROW)", x.action(10, 4, 1, 0, false), 2);
        x.turn(0);
        due("action(10, BAD)", x.action(10, 4, 0, 0, false), BAD);
        due("steps()", x.steps(), 1);
        due("action(10, THROW)", x.action(10, 4, 1, 0, false), 3);
        due("steps()", x.steps(), 0);
    }

    private static void begin() {
        beginInTheMiddle();
        TypeStarts x = ring();
        x.action(0, 1, 0, 7, false);
        due("begin()", x.begin(), 0);
        int made = x.go(4);
        due("begin()", x.begin(), made);
        due("begin()", x.begin(), 0);
        due("steps()", x.steps(), 0);
        due("log(0, 0)", x.log(0, 0), -1000);
        due("state(0)", x.state(0), 0);
        due("value(0)", x.value(0), 0);
        due("end(0)", x.end(0), 0);
        due("start(0, 0)", x.start(0, 0), NONE);
        due("go(4)", x.go(4), made);
    }

    /** How far a BODY was and its LATEST are gone, too. */
    private static void beginInTheMiddle() {
        TypeStarts x = classes(1, 1);
        x.action(0, 1, 0, 5, false);
        x.action(0, 0, 0, 0, false);
        x.action(10, 5, 0, 5, false);
        x.action(10, 0, 0, 0, false);
        turns(x, 0, 0, 0, 0, 0, 0, 0);
        row(x, 3, 0, 3, 5);
        due("begin()", x.begin(), 7);
        turns(x, 0, 0);
        row(x, 0, 0, 0, 0);
        turns(x, 0, 0);
        due("begin()", x.begin(), 4);
        turns(x, 0, 0, 0, 0);
        due("value(0)", x.value(0), 5);
    }

    private static void turn() {
        TypeStarts x = ring();
        due("turn(-1)", x.turn(-1), NONE);
        due("turn(2)", x.turn(2), NONE);
        turns(x, 0, 0, 1, 1);
        due("turn(0)", x.turn(0), 0);
        due("turn(1)", x.turn(1), 0);
        due("steps()", x.steps(), 4);
        x.begin();
        // One THREAD goes round the ring by itself: 0 begins, leaves its LIST, 1 begins, leaves
        // its LIST, uses 0 that is UNDER WAY here, is DONE; 0 uses 1, is DONE; the THREAD uses 0, ends.
        turns(x, 0, 0, 0, 0, 0, 0, 0, 0, 0);
        due("end(0)", x.end(0), 0);
        turns(x, 0);
        due("turn(0)", x.turn(0), STATE);
        due("end(0)", x.end(0), 2);
        due("steps()", x.steps(), 10);
        turns(x, 1, 1);
        due("turn(1)", x.turn(1), STATE);
        waitInList();
        failedInList();
        wholeList();
    }

    /** All of a LIST BEGINS in its order; what is DONE, or UNDER WAY here, is passed over. */
    private static void wholeList() {
        TypeStarts x = new TypeStarts();
        x.type(0, -1);
        x.type(2, -1);
        x.type(2, -1);
        x.type(2, -1);
        x.type(0, 0);
        for (int f = 1; f <= 3; f++) x.face(4, f);
        x.thread();
        x.action(2, 2, 4, 0, false);
        x.action(10, 2, 1, 0, false);
        x.action(10, 2, 2, 0, false);
        due("go(0)", x.go(0), 19);
        int[] begun = {1, 2, 4, 0, 3};
        int next = 0;
        for (int i = 0; i < 11; i++) {
            if (x.log(i, 1) == 0) due("the one that begins", x.log(i, 2), begun[next++]);
        }
        due("that many began", next, 5);
        x.clear();
        x.type(0, -1);
        x.type(2, -1);
        x.type(2, -1);
        x.type(0, 0);
        x.face(3, 1);
        x.face(3, 2);
        x.thread();
        x.action(10, 2, 3, 0, false);
        turns(x, 0, 0, 0, 0, 0, 0, 0, 0, 0, 0);
        row(x, 1, 0, 0, 0);
        row(x, 3, 0, 0, 1);
        row(x, 5, 0, 0, 2);
        due("start(0, 0)", x.start(0, 0), 3);
        due("start(0, 1)", x.start(0, 1), NONE);
    }

    private static void waitInList() {
        TypeStarts x = new TypeStarts();
        x.type(0, -1);
        x.type(0, 0);
        x.thread();
        x.thread();
        x.action(10, 2, 0, 0, false);
        x.action(11, 2, 1, 0, false);
        turns(x, 0, 1);
        due("turn(1), its LIST's PARENT is elsewhere", x.turn(1), 0);
        due("waits(1)", x.waits(1), 0);
        turns(x, 0, 0);
        due("waits(1)", x.waits(1), NONE);
        turns(x, 1, 1, 1, 1);
        due("end(1)", x.end(1), 2);
        due("state(1)", x.state(1), 2);
    }

    private static void failedInList() {
        TypeStarts x = new TypeStarts();
        x.type(0, -1);
        x.type(0, 0);
        x.type(0, 1);
        x.thread();
        x.action(0, 4, 1, 0, false);
        x.action(10, 2, 0, 0, true);
        x.action(10, 2, 2, 0, true);
        turns(x, 0, 0, 0);
        due("state(0)", x.state(0), 3);
        turns(x, 0, 0);
        due("state(1)", x.state(1), 1);
        turns(x, 0);
        row(x, 5, 0, 2, 1);
        row(x, 6, 0, 2, 2);
        row(x, 7, 0, 4, 4);
        turns(x, 0);
        due("end(0)", x.end(0), 2);
    }

    private static void turnThrows() {
        TypeStarts x = new TypeStarts();
        x.type(1, -1);
        x.type(0, -1);
        x.thread();
        x.field(0);
        // A WRITE of an INTERFACE's FIELD from outside throws 5 and starts nothing.
        x.action(10, 1, 0, 3, true);
        x.action(10, 0, 1, 0, true);
        x.action(10, 4, 1, 0, true);
        x.action(1, 4, 2, 0, false);
        x.action(10, 2, 1, 0, true);
        x.action(10, 4, 1, 0, false);
        turns(x, 0, 0, 0);
        row(x, 0, 0, 4, 5);
        row(x, 1, 0, 4, 5);
        row(x, 2, 0, 4, 1);
        due("state(0)", x.state(0), 0);
        turns(x, 0, 0, 0);
        row(x, 3, 0, 0, 1);
        row(x, 4, 0, 2, 1);
        row(x, 5, 0, 4, 2);
        turns(x, 0);
        row(x, 6, 0, 5, 1);
        due("end(0)", x.end(0), 3);
        writeInOwnBody();
        throwThroughStarts();
    }

    private static void writeInOwnBody() {
        TypeStarts x = new TypeStarts();
        x.type(2, -1);
        x.type(2, -1);
        x.type(0, -1);
        x.face(1, 0);
        x.face(2, 0);
        x.field(0);
        x.thread();
        x.action(0, 1, 0, 3, true);
        x.action(1, 1, 1, 4, true);
        x.action(2, 1, 2, 5, true);
        x.action(10, 2, 0, 0, false);
        x.action(10, 2, 1, 0, false);
        x.action(10, 2, 2, 0, false);
        x.go(0);
        due("value(0)", x.value(0), 3);
        row(x, 0, 0, 0, 0);
        row(x, 1, 0, 1, 0);
        row(x, 2, 0, 0, 1);
        row(x, 3, 0, 4, 5);
        row(x, 4, 0, 1, 1);
        row(x, 5, 0, 0, 2);
        row(x, 6, 0, 4, 5);
    }

    /** 1 becomes 3 in the highest BODY, and goes through an ACTION, a LIST and the THREAD's BODY. */
    private static void throwThroughStarts() {
        TypeStarts x = classes(2, 1);
        x.type(0, 1);
        x.action(0, 4, 1, 0, false);
        x.action(1, 0, 0, 0, false);
        x.action(10, 2, 2, 0, false);
        turns(x, 0, 0, 0, 0, 0);
        due("start(0, 2)", x.start(0, 2), 0);
        turns(x, 0);
        row(x, 3, 0, 2, 0);
        row(x, 4, 0, 2, 1);
        row(x, 5, 0, 2, 2);
        row(x, 6, 0, 5, 3);
        due("end(0)", x.end(0), 5);
        due("start(0, 0)", x.start(0, 0), NONE);
        x = new TypeStarts();
        for (int t = 0; t < 6; t++) x.type(0, t - 1);
        x.thread();
        x.action(0, 4, 1, 0, false);
        x.action(10, 2, 5, 0, false);
        due("go(0), six STARTS fail in one STEP", x.go(0), 8);
        for (int t = 0; t < 6; t++) due("state(" + t + ")", x.state(t), 3);
        due("end(0)", x.end(0), 5);
        x = classes(2, 1);
        x.action(0, 0, 0, 0, false);
        x.action(0, 4, 2, 0, false);
        x.action(1, 2, 0, 0, true);
        x.action(10, 2, 1, 0, false);
        x.go(3);
        due("state(0)", x.state(0), 3);
        due("state(1)", x.state(1), 2);
        due("end(0)", x.end(0), 2);
    }

    private static void turnLeaves() {
        TypeStarts x = classes(1, 2);
        x.action(0, 5, 0, 3, false);
        x.action(0, 1, 0, 3, false);
        x.action(10, 0, 0, 0, false);
        x.action(10, 5, 0, 2, false);
        x.action(10, 5, 0, 3, false);
        x.action(10, 1, 0, 8, false);
        x.action(11, 5, 0, 0, false);
        x.action(11, 1, 0, 9, false);
        turns(x, 0, 0, 0, 0, 0, 0, 0, 0);
        due("end(0)", x.end(0), 0);
        turns(x, 0);
        due("end(0)", x.end(0), 2);
        due("value(0)", x.value(0), 3);
        turns(x, 1, 1);
        due("turn(1)", x.turn(1), STATE);
        due("value(0)", x.value(0), 3);
        // A THREAD that reads what is UNDER WAY in itself sees 0.
        x = classes(2, 1);
        x.action(0, 0, 1, 0, false);
        x.action(0, 1, 0, 4, false);
        x.action(1, 0, 0, 0, false);
        x.action(1, 1, 1, 5, false);
        x.action(10, 2, 0, 0, false);
        x.go(0);
        row(x, 2, 0, 3, 0);
        row(x, 4, 0, 3, 5);
    }

    private static void go() {
        TypeStarts x = new TypeStarts();
        due("go(7)", x.go(7), 0);
        x = classes(3, 3);
        for (int t = 0; t < 3; t++) {
            for (int i = 0; i < 5; i++) x.action(10 + t, 3, 0, 0, false);
            x.action(t, 3, 0, 0, false);
        }
        int[] seeds = {0, 1, 2, -1, 12345, MOST, LEAST, 1 << 24, -77};
        for (int seed : seeds) goBySeed(x, seed);
        due("go(1) once more", x.go(1), 0);
        ringGoes();
    }

    /** The THREADS end in an order that the seed tells. */
    private static void goBySeed(TypeStarts x, int seed) {
        x.begin();
        due("go(" + seed + ")", x.go(seed), 18);
        int[] left = {6, 6, 6};
        long z = seed;
        int ends = 0;
        for (int step = 0; step < 18; step++) {
            z = (int) (z * 1664525L + 1013904223L);
            int n = 0;
            for (int t = 0; t < 3; t++) if (left[t] > 0) n++;
            int at = (int) ((z & 0xFFFFFFFFL) / 256 % n);
            for (int t = 0; t < 3; t++) {
                if (left[t] > 0 && at-- == 0) {
                    left[t]--;
                    if (left[t] == 0) row(x, ends++, t, 5, 0);
                    break;
                }
            }
        }
    }

    private static void ringGoes() {
        TypeStarts x = ring();
        turns(x, 0, 0, 1);
        // THREAD 0 WAITS; THREAD 1 leaves its LIST and WAITS, too.
        due("go(5)", x.go(5), 1);
        due("steps()", x.steps(), 4);
        due("go(5)", x.go(5), 0);
    }

    private static void steps() {
        TypeStarts x = ring();
        due("steps()", x.steps(), 0);
        turns(x, 0);
        due("steps()", x.steps(), 1);
        x.turn(5);
        due("steps()", x.steps(), 1);
        int more = x.go(3);
        due("steps()", x.steps(), 1 + more);
        x.type(5, -1);
        due("steps()", x.steps(), 1 + more);
        x.type(0, -1);
        due("steps()", x.steps(), 0);
        x.turn(0);
        x.face(2, 0);
        due("steps()", x.steps(), 1);
        x.field(2);
        due("steps()", x.steps(), 0);
        x.type(1, -1);
        x.type(0, -1);
        x.turn(0);
        x.face(4, 3);
        due("steps()", x.steps(), 0);
        mostSteps();
    }

    private static void mostSteps() {
        TypeStarts x = longest();
        due("go(0)", x.go(0), 66);
        due("steps()", x.steps(), 66);
        due("log(59, 1)", x.log(59, 1), 5);
        due("log(60, 1)", x.log(60, 1), -1000);
        x.begin();
        x.turn(0);
        due("begin()", x.begin(), 1);
    }

    private static void state() {
        TypeStarts x = classes(2, 1);
        x.action(10, 2, 0, 0, true);
        x.action(10, 2, 1, 0, true);
        x.action(1, 4, 1, 0, false);
        due("state(-1)", x.state(-1), NONE);
        due("state(2)", x.state(2), NONE);
        due("state(0)", x.state(0), 0);
        turns(x, 0);
        due("state(0)", x.state(0), 1);
        turns(x, 0);
        due("state(0)", x.state(0), 1);
        turns(x, 0);
        due("state(0)", x.state(0), 2);
        turns(x, 0, 0, 0, 0);
        due("state(1)", x.state(1), 3);
        due("state(0)", x.state(0), 2);
    }

    private static void in() {
        TypeStarts x = ring();
        due("in(-1)", x.in(-1), NONE);
        due("in(2)", x.in(2), NONE);
        due("in(0)", x.in(0), NONE);
        turns(x, 1);
        due("in(1)", x.in(1), 1);
        due("in(0)", x.in(0), NONE);
        turns(x, 1, 1);
        due("in(0)", x.in(0), 1);
        turns(x, 1, 1, 1);
        due("in(0)", x.in(0), NONE);
        due("in(1)", x.in(1), 1);
    }

    private static void value() {
        TypeStarts x = classes(1, 1);
        x.type(0, 0);
        x.action(0, 1, 1, -9, false);
        x.action(10, 1, 1, 9, false);
        due("value(-1)", x.value(-1), -1000);
        due("value(2)", x.value(2), -1000);
        due("value(1)", x.value(1), -1000);
        due("value(0)", x.value(0), 0);
        turns(x, 0, 0, 0);
        due("value(0)", x.value(0), -9);
        turns(x, 0, 0);
        due("value(0)", x.value(0), 9);
        due("state(1), the FIELD's own TYPE alone has begun", x.state(1), 0);
    }

    private static void end() {
        TypeStarts x = ring();
        due("end(-1)", x.end(-1), NONE);
        due("end(2)", x.end(2), NONE);
        due("end(0)", x.end(0), 0);
        turns(x, 0, 0, 1);
        due("end(0)", x.end(0), 1);
        due("end(1)", x.end(1), 0);
        for (int number = 1; number <= 5; number++) {
            x = classes(2, 1);
            x.type(0, -1);
            if (number < 3) x.action(10, 4, number, 0, false);
            if (number == 3) x.action(10, 2, 0, 0, false);
            if (number == 4) x.action(10, 2, 0, 0, true);
            if (number == 4) x.action(10, 2, 0, 0, false);
            if (number == 5) x.action(10, 0, 2, 0, false);
            x.action(0, 4, 1, 0, false);
            x.go(0);
            due("end(0) by " + number, x.end(0), 2 + number);
        }
    }

    private static void waits() {
        TypeStarts x = ring();
        due("waits(-1)", x.waits(-1), NONE);
        due("waits(2)", x.waits(2), NONE);
        due("waits(0)", x.waits(0), NONE);
        turns(x, 0, 0, 1);
        due("waits(0)", x.waits(0), 1);
        due("waits(1)", x.waits(1), NONE);
        turns(x, 1);
        due("waits(1)", x.waits(1), 0);
        x = classes(1, 2);
        x.action(10, 2, 0, 0, false);
        x.action(11, 0, 0, 0, false);
        turns(x, 0);
        due("waits(1)", x.waits(1), 0);
        turns(x, 0, 0);
        due("waits(1)", x.waits(1), NONE);
        turns(x, 0, 0);
        due("waits(0)", x.waits(0), NONE);
    }

    private static void start() {
        TypeStarts x = ring();
        due("start(-1, 0)", x.start(-1, 0), NONE);
        due("start(2, 0)", x.start(2, 0), NONE);
        due("start(0, 0)", x.start(0, 0), NONE);
        turns(x, 1, 1, 1);
        due("start(1, 0)", x.start(1, 0), 1);
        due("start(1, 1)", x.start(1, 1), 0);
        due("start(1, 2)", x.start(1, 2), NONE);
        due("start(1, -1)", x.start(1, -1), NONE);
        due("start(1, MOST)", x.start(1, MOST), NONE);
        due("start(0, 0)", x.start(0, 0), NONE);
        turns(x, 1, 1, 1);
        due("start(1, 0)", x.start(1, 0), 1);
        due("start(1, 1)", x.start(1, 1), NONE);
        x = new TypeStarts();
        for (int t = 0; t < 6; t++) x.type(0, t - 1);
        x.thread();
        x.action(10, 2, 5, 0, false);
        turns(x, 0, 0, 0, 0, 0, 0);
        for (int i = 0; i < 6; i++) due("start(0, " + i + ")", x.start(0, i), 5 - i);
        due("start(0, 6)", x.start(0, 6), NONE);
    }

    private static void log() {
        TypeStarts x = classes(2, 2);
        x.action(0, 1, 0, 6, false);
        x.action(1, 4, 1, 0, false);
        x.action(10, 0, 0, 0, false);
        x.action(11, 2, 1, 0, true);
        x.action(11, 3, 1, 0, false);
        due("log(0, 0)", x.log(0, 0), -1000);
        turns(x, 1, 0, 0, 1, 0, 0, 0, 1, 1, 0, 1);
        row(x, 0, 1, 0, 1);
        row(x, 1, 0, 0, 0);
        row(x, 2, 0, 1, 0);
        row(x, 3, 0, 3, 6);
        row(x, 4, 1, 2, 1);
        row(x, 5, 1, 4, 3);
        row(x, 6, 0, 5, 0);
        row(x, 7, 1, 5, 0);
        due("log(8, 0)", x.log(8, 0), -1000);
        due("log(-1, 0)", x.log(-1, 0), -1000);
        due("log(0, -1)", x.log(0, -1), -1000);
        due("log(0, 3)", x.log(0, 3), -1000);
        due("log(MOST, MOST)", x.log(MOST, MOST), -1000);
    }

    private static void list() {
        TypeStarts x = new TypeStarts();
        x.type(2, -1);
        x.type(1, -1);
        x.type(2, -1);
        x.type(2, -1);
        x.type(0, -1);
        x.type(0, 4);
        x.face(1, 0);
        x.face(2, 1);
        x.face(5, 3);
        x.face(5, 2);
        due("list(-1, 0)", x.list(-1, 0), NONE);
        due("list(6, 0)", x.list(6, 0), NONE);
        due("list(5, -1)", x.list(5, -1), NONE);
        due("list(5, MOST)", x.list(5, MOST), NONE);
        listIs(x, 0);
        listIs(x, 1);
        listIs(x, 2);
        listIs(x, 4);
        listIs(x, 5, 4, 3, 0, 2);
        x.face(5, 0);
        listIs(x, 5, 4, 3, 0, 2);
        x.face(3, 2);
        listIs(x, 5, 4, 0, 2, 3);
        x.face(4, 1);
        listIs(x, 4, 0);
        x.clear();
        x.type(2, -1);
        x.type(2, -1);
        x.type(0, -1);
        x.face(1, 0);
        x.face(2, 0);
        x.face(2, 1);
        listIs(x, 2, 0, 1);
        // What its PARENT has of FACES is told of the PARENT, not of it.
        x.clear();
        x.type(2, -1);
        x.type(0, -1);
        x.face(1, 0);
        x.type(0, 1);
        listIs(x, 1, 0);
        listIs(x, 2, 1);
    }

    private static void through() {
        TypeStarts x = new TypeStarts();
        x.type(1, -1);
        x.type(2, -1);
        x.type(1, -1);
        x.type(0, -1);
        x.type(0, 3);
        due("through(-1)", x.through(-1), NONE);
        due("through(5)", x.through(5), NONE);
        due("through(4)", x.through(4), NONE);
        x.field(3);
        due("through(4)", x.through(4), 3);
        x.face(4, 2);
        due("through(4)", x.through(4), 3);
        x.face(4, 1);
        x.field(1);
        due("through(4)", x.through(4), 1);
        x.face(2, 0);
        x.field(0);
        due("through(4), by its first FACE's FACE", x.through(4), 0);
        due("through(2)", x.through(2), 0);
        due("through(1)", x.through(1), 1);
        x.field(4);
        due("through(4)", x.through(4), 4);
        x.type(0, 4);
        due("through(5)", x.through(5), 4);
        x.face(5, 2);
        due("through(5)", x.through(5), 0);
    }

    private static void needs() {
        TypeStarts x = new TypeStarts();
        x.type(2, -1);
        x.type(0, -1);
        x.type(0, 1);
        x.type(0, -1);
        due("needs(4, 0)", x.needs(4, 0), NONE);
        due("needs(0, 4)", x.needs(0, 4), NONE);
        due("needs(-1, 0)", x.needs(-1, 0), NONE);
        due("needs(0, -1)", x.needs(0, -1), NONE);
        due("needs(2, 1)", x.needs(2, 1), 1);
        due("needs(1, 2)", x.needs(1, 2), 0);
        x.action(1, 2, 1, 0, false);
        due("needs(1, 1), asked for of itself", x.needs(1, 1), 0);
        x.action(1, 3, 3, 0, false);
        due("needs(1, 3), PASS", x.needs(1, 3), 0);
        x.action(1, 0, 0, 0, false);
        due("needs(1, 0), no FIELD", x.needs(1, 0), 0);
        x.field(0);
        due("needs(1, 0)", x.needs(1, 0), 1);
        due("needs(2, 0)", x.needs(2, 0), 1);
        x.action(3, 1, 0, 1, false);
        due("needs(3, 0), 5 is thrown", x.needs(3, 0), 0);
        x.action(3, 2, 2, 0, true);
        due("needs(3, 0)", x.needs(3, 0), 1);
        due("needs(3, 3)", x.needs(3, 3), 0);
        x.action(0, 1, 0, 1, false);
        due("needs(0, 0)", x.needs(0, 0), 0);
        x.action(0, 2, 3, 0, false);
        due("needs(0, 0)", x.needs(0, 0), 1);
        due("needs(3, 3)", x.needs(3, 3), 1);
        due("needs(1, 2)", x.needs(1, 2), 1);
        x.clear();
        x.type(2, -1);
        x.type(0, -1);
        x.face(1, 0);
        due("needs(1, 0)", x.needs(1, 0), 1);
        // A FIELD of the PARENT asks for the PARENT, not for the TYPE that is named.
        x.type(0, 1);
        x.type(0, -1);
        x.field(1);
        x.action(3, 0, 2, 0, false);
        due("needs(3, 1)", x.needs(3, 1), 1);
        due("needs(3, 2)", x.needs(3, 2), 0);
    }

    private static void search() {
        TypeStarts x = ring();
        due("points()", x.points(), STATE);
        due("search()", x.search(), 2);
        due("search()", x.search(), 2);
        x.turn(7);
        x.type(9, -1);
        x.face(0, 0);
        x.field(0);
        x.action(0, 9, 0, 0, false);
        due("stuck(), nothing was done", x.stuck(), 1);
        turns(x, 0);
        due("points()", x.points(), STATE);
        due("outcome(0, 0)", x.outcome(0, 0), -1000);
        due("search()", x.search(), 2);
        turns(x, 0, 1);
        due("search()", x.search(), 1);
        due("turn(0)", x.turn(0), 0);
        due("outcome(0, 0)", x.outcome(0, 0), 1);
        turns(x, 1);
        due("points()", x.points(), STATE);
        due("search()", x.search(), 1);
        due("go(1)", x.go(1), 0);
        due("points()", x.points(), 1);
        due("begin()", x.begin(), 4);
        due("points()", x.points(), STATE);
        x.search();
        x.begin();
        due("points(), begin() at first", x.points(), STATE);
        x.search();
        due("thread()", x.thread(), 2);
        due("points()", x.points(), STATE);
        x.search();
        due("thread()", x.thread(), FULL);
        due("stuck()", x.stuck(), 1);
        x.action(10, 3, 0, 0, false);
        due("points()", x.points(), STATE);
        x.search();
        x.go(2);
        due("points()", x.points(), STATE);
        x.search();
        x.clear();
        due("points()", x.points(), STATE);
        due("search()", x.search(), 1);
        x.type(0, -1);
        due("points()", x.points(), STATE);
        x.search();
        x.field(0);
        due("points()", x.points(), STATE);
        x.type(1, -1);
        x.type(0, -1);
        x.search();
        x.face(2, 1);
        due("points()", x.points(), STATE);
        searchLeavesTheRun();
    }

    private static void searchLeavesTheRun() {
        TypeStarts x = ring();
        turns(x, 0, 0, 0);
        x.search();
        due("steps()", x.steps(), 3);
        due("start(0, 1)", x.start(0, 1), 1);
        due("log(2, 0)", x.log(2, 0), -1000);
        due("end(1)", x.end(1), 1);
        turns(x, 0, 0);
        due("state(1)", x.state(1), 1);
    }

    private static void searchLimits() {
        TypeStarts x = apart(19);
        due("search() of 10 * 15 * 20 POINTS", x.search(), 1);
        due("points()", x.points(), 3000);
        x.action(5, 3, 0, 0, false);
        due("search() of 10 * 15 * 21 POINTS", x.search(), FULL);
        due("points()", x.points(), STATE);
        due("search() again", x.search(), FULL);
        due("holds()", x.holds(), STATE);
        turns(x, 2);
        due("search() of 10 * 15 * 20 POINTS", x.search(), 1);
        due("points()", x.points(), 3000);
        for (int k = 0; k < 42; k++) due("witness(0, " + k + ")", x.witness(0, k), k < 9 ? 0 : k < 23 ? 1 : 2);
        due("witness(0, 42)", x.witness(0, 42), NONE);
        x = pointsJustTooMany();
        due("search() of 3001 POINTS", x.search(), FULL);
        turns(x, 0);
        due("search() behind a STEP", x.search() > 0 ? 1 : 0, 1);
        due("points() are fewer", x.points() <= 3000 ? 1 : 0, 1);
    }

    private static TypeStarts pointsJustTooMany() {
        TypeStarts x = classes(5, 3);
        x.action(10, 0, 2, 0, false);
        x.action(10, 1, 0, 3, false);
        x.action(1, 1, 4, 2, false);
        x.action(11, 1, 2, 4, false);
        x.action(12, 1, 4, 4, true);
        x.action(12, 1, 4, 1, true);
        x.action(10, 1, 0, 0, false);
        x.action(10, 1, 0, 0, false);
        x.action(10, 0, 1, 0, true);
        x.action(11, 1, 2, 4, false);
        x.action(12, 3, 1, 0, false);
        x.action(4, 1, 0, 1, false);
        x.action(11, 1, 2, 0, false);
        x.action(11, 1, 3, 1, false);
        x.action(12, 1, 4, 4, false);
        x.action(2, 1, 0, 1, false);
        return x;
    }

    private static void points() {
        TypeStarts x = new TypeStarts();
        x.search();
        due("points()", x.points(), 1);
        x.thread();
        due("points()", x.points(), STATE);
        x.search();
        due("points()", x.points(), 2);
        x.thread();
        x.search();
        due("points()", x.points(), 4);
        x.type(0, -1);
        x.action(10, 3, 0, 0, false);
        x.search();
        due("points()", x.points(), 6);
        turns(x, 0);
        x.search();
        due("points()", x.points(), 4);
        pointsOfLeaves();
    }

    /** A BODY that was left is as one behind its last ACTION. */
    private static void pointsOfLeaves() {
        TypeStarts x = classes(1, 1);
        x.action(10, 5, 0, 0, false);
        x.action(10, 3, 0, 0, false);
        x.action(10, 3, 0, 0, false);
        x.search();
        due("points()", x.points(), 3);
        x = classes(1, 1);
        x.action(10, 5, 0, 1, false);
        x.action(10, 3, 0, 0, false);
        x.search();
        due("points()", x.points(), 4);
    }

    private static void stuck() {
        TypeStarts x = ring();
        due("stuck()", x.stuck(), STATE);
        x.search();
        due("stuck()", x.stuck(), 1);
        turns(x, 0, 0, 0);
        x.search();
        due("stuck()", x.stuck(), 0);
        x.begin();
        x.thread();
        x.action(12, 2, 1, 0, false);
        x.search();
        // 0 in THREAD 0, and 1 in THREAD 1 or 2: the third one WAITS for 1, too, so both are one OUTCOME.
        due("stuck()", x.stuck(), 1);
        due("outcome(0, 2)", x.outcome(0, 2), 1);
    }

    private static void outcome() {
        TypeStarts x = classes(2, 2);
        x.type(0, -1);
        x.action(10, 1, 0, -9, false);
        x.action(11, 1, 0, 9, false);
        x.action(11, 4, 2, 0, false);
        x.action(11, 3, 1, 0, false);
        due("outcome(0, 0)", x.outcome(0, 0), -1000);
        due("search()", x.search(), 2);
        int[] first = {2, 4, 0, 2, 0, 0, 0, 0, 0, -9, 0, 0, 0, 0, 0};
        for (int k = 0; k < 15; k++) {
            due("outcome(0, " + k + ")", x.outcome(0, k), first[k]);
            due("outcome(1, " + k + ")", x.outcome(1, k), k == 9 ? 9 : first[k]);
        }
        due("outcome(2, 0)", x.outcome(2, 0), -1000);
        due("outcome(-1, 0)", x.outcome(-1, 0), -1000);
        due("outcome(0, 15)", x.outcome(0, 15), -1000);
        due("outcome(0, -1)", x.outcome(0, -1), -1000);
        due("outcome(MOST, LEAST)", x.outcome(MOST, LEAST), -1000);
        x = ring();
        x.search();
        int[] stuck = {1, 1, 0, 1, 1, 0, 0, 0, 0, 0, 0, 0, 0, 0, 0};
        for (int k = 0; k < 15; k++) due("outcome(0, " + k + ")", x.outcome(0, k), stuck[k]);
        due("outcome(1, 3)", x.outcome(1, 3), 2);
        outcomesInOrder();
    }

    private static void outcomesInOrder() {
        TypeStarts x = classes(2, 2);
        x.action(1, 4, 1, 0, false);
        x.action(10, 0, 0, 0, false);
        x.action(10, 5, 0, 3, false);
        x.action(10, 4, 1, 0, false);
        x.action(11, 2, 1, 0, true);
        x.action(11, 1, 0, 3, false);
        // THREAD 0 ends well, if it reads behind the WRITE; else with 1.
        due("search()", x.search(), 2);
        due("outcome(0, 0)", x.outcome(0, 0), 2);
        due("outcome(1, 0)", x.outcome(1, 0), 3);
        due("outcome(0, 4)", x.outcome(0, 4), 3);
        due("outcome(0, 9)", x.outcome(0, 9), 3);
    }

    private static void witness() {
        TypeStarts x = ring();
        due("witness(0, 0)", x.witness(0, 0), STATE);
        due("witness(-1, -1)", x.witness(-1, -1), STATE);
        x.search();
        witnessIs(x, 0, 0, 0, 1, 1);
        witnessIs(x, 1, 0, 0, 0, 0, 0, 0, 0, 0, 0, 0, 1, 1);
        due("witness(2, 0)", x.witness(2, 0), NONE);
        due("witness(-1, 0)", x.witness(-1, 0), NONE);
        due("witness(0, -1)", x.witness(0, -1), NONE);
        due("witness(0, MOST)", x.witness(0, MOST), NONE);
        due("witness(MOST, 0)", x.witness(MOST, 0), NONE);
        turns(x, 1);
        x.search();
        witnessIs(x, 0, 0, 0, 1);
        x.go(0);
        x.search();
        witnessIs(x, 0);
        x = classes(1, 2);
        x.action(10, 1, 0, 5, false);
        x.action(11, 1, 0, 4, false);
        x.search();
        // 4 is last: THREAD 0 first; 5 is last: THREAD 0 starts the TYPE, then lets 1 WRITE.
        witnessIs(x, 0, 0, 0, 0, 0, 0, 1, 1);
        witnessIs(x, 1, 0, 0, 0, 1, 0, 0, 1);
    }

    private static void holds() {
        TypeStarts x = ring();
        due("holds()", x.holds(), STATE);
        x.search();
        due("holds(), stuck, but 0 NEEDS itself", x.holds(), 1);
        x = classes(2, 2);
        x.action(10, 2, 0, 0, false);
        x.action(11, 2, 0, 0, false);
        x.search();
        due("holds(), none sticks", x.holds(), 1);
        turns(x, 0);
        due("holds()", x.holds(), STATE);
        x = apart(20);
        x.search();
        due("holds(), FULL", x.holds(), STATE);
    }
}
