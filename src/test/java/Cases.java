/**
 * What the tests share whose answers were worked out by hand: how an answer is compared with the
 * one that is due, and houses that more than one of them uses.
 */
abstract class Cases {
    static final int NONE = TypeStarts.NONE, BAD = TypeStarts.BAD;
    static final int STATE = TypeStarts.STATE, FULL = TypeStarts.FULL;
    static final int NO_NUMBER = -1000;
    static final int LEAST = Integer.MIN_VALUE, MOST = Integer.MAX_VALUE;

    private static String subject = "";
    private static int compared = 0;
    private static int wrong = 0;

    static void about(String newSubject) {
        subject = newSubject;
    }

    static int compared() {
        return compared;
    }

    static int wrong() {
        return wrong;
    }

    static void fail(String what) {
        wrong++;
        System.out.println(subject + ": " + what);
    }

    static void due(String call, int got, int want) {
        compared++;
        if (got != want) fail(call + " answered " + got + ", due is " + want);
    }

    static void endWith(String good) {
        System.out.println(wrong == 0 ? good : wrong + " things are not as due");
        if (wrong != 0) System.exit(1);
    }

    /** Numbers that name none of so many, those next to them first; -1 is among them. */
    static int[] outside(int count) {
        return new int[] {-1, count, -2, count + 1, LEAST, MOST, LEAST + 9};
    }

    static void turns(TypeStarts x, int... threads) {
        for (int t : threads) due("turn(" + t + ")", x.turn(t), 1);
    }

    /** So many STEPS of one THREAD. */
    static void manyTurns(TypeStarts x, int thread, int steps) {
        for (int i = 0; i < steps; i++) due("turn(" + thread + ")", x.turn(thread), 1);
    }

    static void row(TypeStarts x, int i, int thread, int event, int number) {
        due("log(" + i + ", 0)", x.log(i, 0), thread);
        due("log(" + i + ", 1)", x.log(i, 1), event);
        due("log(" + i + ", 2)", x.log(i, 2), number);
    }

    static void rowsAre(TypeStarts x, int rows) {
        if (rows > 0) due("log(" + (rows - 1) + ", 0) is there", x.log(rows - 1, 0) == NO_NUMBER ? 0 : 1, 1);
        due("log(" + rows + ", 0)", x.log(rows, 0), NO_NUMBER);
    }

    static void listIs(TypeStarts x, int type, int... entries) {
        for (int i = 0; i < entries.length; i++) due("list(" + type + ", " + i + ")", x.list(type, i), entries[i]);
        due("list(" + type + ", " + entries.length + ")", x.list(type, entries.length), NONE);
    }

    static void witnessIs(TypeStarts x, int i, int... threads) {
        for (int k = 0; k < threads.length; k++) {
            due("witness(" + i + ", " + k + ")", x.witness(i, k), threads[k]);
        }
        due("witness(" + i + ", " + threads.length + ")", x.witness(i, threads.length), NONE);
    }

    static TypeStarts sorts(int... sorts) {
        TypeStarts x = new TypeStarts();
        for (int sort : sorts) x.type(sort, -1);
        return x;
    }

    /** CLASSES with a FIELD each, and THREADS. */
    static TypeStarts classes(int types, int threads) {
        TypeStarts x = new TypeStarts();
        for (int i = 0; i < types; i++) {
            x.type(0, -1);
            x.field(i);
        }
        for (int i = 0; i < threads; i++) x.thread();
        return x;
    }

    /** Two CLASSES that use one another, and a THREAD for each: they stick, if both have begun. */
    static TypeStarts ring() {
        TypeStarts x = classes(2, 2);
        x.action(0, 2, 1, 0, false);
        x.action(1, 2, 0, 0, false);
        x.action(10, 2, 0, 0, false);
        x.action(11, 2, 1, 0, false);
        return x;
    }

    /** Six CLASSES with FIELDS, each the PARENT of the next one, and THREADS of which 0 uses the last. */
    static TypeStarts chain(int threads) {
        TypeStarts x = new TypeStarts();
        for (int t = 0; t < 6; t++) {
            x.type(0, t - 1);
            x.field(t);
        }
        for (int h = 0; h < threads; h++) x.thread();
        x.action(10, 2, 5, 0, false);
        return x;
    }

    /** A chain whose THREADS write: THREAD, TYPE, number; all TYPES are DONE, THREAD 0 is behind its USE. */
    static TypeStarts writers(int[][] writes) {
        TypeStarts x = chain(3);
        for (int[] w : writes) x.action(w[0], 1, w[1], w[2], false);
        manyTurns(x, 0, 19);
        return x;
    }

    /** 0, and INTERFACES 1 to 4 with a DEFAULT, are the LIST of 5, the longest that there can be. */
    static TypeStarts longestList() {
        TypeStarts x = sorts(0, 2, 2, 2, 2);
        x.type(0, 0);
        x.face(4, 3);
        x.face(5, 1);
        x.face(5, 2);
        x.face(5, 4);
        x.thread();
        return x;
    }

    /** Six STARTS of five ACTIONS and three THREADS of five: no RUN has more STEPS or more rows. */
    static TypeStarts longest() {
        TypeStarts x = classes(6, 3);
        for (int t = 0; t < 6; t++) {
            for (int i = 0; i < 5; i++) x.action(t, 0, t, 0, false);
        }
        for (int h = 0; h < 3; h++) {
            for (int i = 0; i < 5; i++) x.action(10 + h, 0, h == 2 ? 5 : i, 0, false);
        }
        return x;
    }

    /** THREADS that have nothing to do with one another, of 9, 14 and any number of STEPS from 18. */
    static TypeStarts apart(int lastSteps) {
        TypeStarts x = classes(6, 3);
        int[] passes = {4, 5, 0, 5, lastSteps - 18, 0};
        for (int t = 0; t < 6; t++) {
            for (int i = 0; i < passes[t]; i++) x.action(t, 3, 0, 0, false);
        }
        x.action(10, 2, 0, 0, false);
        x.action(11, 2, 1, 0, false);
        x.action(11, 2, 2, 0, false);
        x.action(12, 2, 3, 0, false);
        x.action(12, 2, 4, 0, false);
        x.action(12, 2, 5, 0, false);
        return x;
    }
}
