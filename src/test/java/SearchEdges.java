import java.util.HashSet;
import java.util.Set;

/** The boundary cases of promises 19 to 27: what is needed, all runs. */
final class SearchEdges extends Cases {

    // ---- promise 19: list

    @Edge(promise = 19, says = "Entry i of the LIST of a TYPE.")
    static void theFirstAndTheLastOfTheLongestList() {
        TypeStarts x = longestList();
        listIs(x, 5, 0, 1, 2, 3, 4);
        for (int i : outside(5)) due("list(5, " + i + ")", x.list(5, i), NONE);
    }

    @Edge(promise = 19, says = "NONE.")
    static void listOfNoType() {
        for (int count = 0; count <= 6; count++) {
            TypeStarts x = classes(0, 3);
            for (int t = 0; t < count; t++) x.type(0, t - 1);
            for (int t : outside(count)) due("list(" + t + ", 0)", x.list(t, 0), NONE);
        }
    }

    @Edge(promise = 19, says = "THE LIST of an INTERFACE is empty.")
    static void anInterfaceWithFacesHasAnEmptyList() {
        TypeStarts x = sorts(2, 2, 1, 2);
        for (int t = 2; t <= 3; t++) {
            x.face(t, 0);
            x.face(t, 1);
            for (int i = -1; i <= 2; i++) due("list(" + t + ", " + i + ")", x.list(t, i), NONE);
        }
    }

    @Edge(promise = 19, says = "THE LIST of a CLASS: its PARENT, if it has one")
    static void listsWithAndWithoutAParent() {
        TypeStarts x = sorts(0, 2);
        listIs(x, 0);
        x.type(0, 0);
        listIs(x, 2, 0);
        x.face(0, 1);
        x.face(2, 1);
        listIs(x, 0);
        listIs(x, 2, 0, 1);
        x.type(0, 2);
        // Of its PARENT the PARENT alone, not what that one's LIST has.
        listIs(x, 3, 2);
    }

    @Edge(promise = 19, says = "then of its FACES, in order, first what is told so of each one's own FACES, then that FACE itself")
    static void facesOfFacesOfFacesComeFirst() {
        TypeStarts x = sorts(2, 2, 2, 2, 0);
        for (int f = 1; f <= 3; f++) x.face(f, f - 1);
        x.face(4, 3);
        listIs(x, 4, 0, 1, 2, 3);
    }

    @Edge(promise = 19, says = "without those that have no DEFAULT")
    static void aFaceWithoutADefaultBringsItsOwnFacesAlone() {
        TypeStarts x = sorts(1, 2, 1, 0, 0);
        x.face(3, 0);
        listIs(x, 3);
        x.face(2, 1);
        x.face(4, 2);
        listIs(x, 4, 1);
    }

    @Edge(promise = 19, says = "each the first time alone")
    static void whatIsToldTwiceStandsWhereItCameFirst() {
        TypeStarts x = sorts(2, 2, 2, 0, 0);
        x.face(1, 0);
        x.face(2, 0);
        x.face(3, 1);
        x.face(3, 2);
        x.face(3, 0);
        listIs(x, 3, 0, 1, 2);
        x.face(4, 0);
        x.face(4, 2);
        listIs(x, 4, 0, 2);
    }

    // ---- promise 20: through

    @Edge(promise = 20, says = "NONE (without, too).")
    static void throughNoTypeOrNoField() {
        TypeStarts x = sorts(1, 0);
        x.type(0, 1);
        x.face(2, 0);
        for (int t = 0; t < 3; t++) due("through(" + t + ")", x.through(t), NONE);
        for (int t : outside(3)) due("through(" + t + ")", x.through(t), NONE);
        x.field(2);
        due("through(2)", x.through(2), 2);
        due("through(1), downwards it is not seen", x.through(1), NONE);
        due("through(0)", x.through(0), NONE);
        for (int t : outside(3)) due("through(" + t + ")", x.through(t), NONE);
    }

    @Edge(promise = 20, says = "The TYPE whose FIELD it is THROUGH a TYPE.")
    static void throughTheWholeChain() {
        TypeStarts x = new TypeStarts();
        for (int t = 0; t < 6; t++) x.type(0, t - 1);
        for (int owner = 0; owner < 6; owner++) {
            x.field(owner);
            for (int t = 0; t < 6; t++) due("through(" + t + ")", x.through(t), Math.min(t, owner));
        }
    }

    @Edge(promise = 20, says = "THE FIELD THROUGH a TYPE: its own; else the first that there is through its FACES, in order; else that through its PARENT.")
    static void ownThenFacesInOrderThenParent() {
        TypeStarts x = sorts(1, 1, 1, 0);
        x.type(0, 3);
        x.face(4, 2);
        x.face(4, 1);
        x.face(1, 0);
        x.field(3);
        due("through(4), its PARENT's", x.through(4), 3);
        x.field(0);
        due("through(4), its last FACE's FACE's", x.through(4), 0);
        x.field(1);
        due("through(4), its last FACE's", x.through(4), 1);
        x.field(2);
        due("through(4), its first FACE's", x.through(4), 2);
        x.field(4);
        due("through(4), its own", x.through(4), 4);
    }

    // ---- promise 21: needs

    @Edge(promise = 21, says = "NONE.")
    static void needsOfNoType() {
        for (int count = 0; count <= 6; count++) {
            TypeStarts x = classes(count, 0);
            for (int t : outside(count)) {
                due("needs(" + t + ", 0)", x.needs(t, 0), NONE);
                due("needs(0, " + t + ")", x.needs(0, t), NONE);
                due("needs(" + t + ", " + t + ")", x.needs(t, t), NONE);
            }
        }
    }

    @Edge(promise = 21, says = "Whether a TYPE NEEDS another one, or itself: 1, 0.")
    static void theLongestWayUpAndDown() {
        for (int up = 0; up <= 1; up++) {
            TypeStarts x = classes(6, 0);
            for (int t = 0; t < 5; t++) x.action(up == 1 ? t : 5 - t, 2, up == 1 ? t + 1 : 4 - t, 0, false);
            for (int t = 0; t < 6; t++) {
                for (int o = 0; o < 6; o++) {
                    boolean ahead = up == 1 ? o > t : o < t;
                    due("needs(" + t + ", " + o + ")", x.needs(t, o), ahead ? 1 : 0);
                }
            }
        }
    }

    @Edge(promise = 21, says = "and what that one NEEDS (so perhaps itself, by way of others)")
    static void aRingOfTwoAndOfSix() {
        TypeStarts x = ring();
        for (int t = 0; t < 4; t++) due("needs(" + t / 2 + ", " + t % 2 + ")", x.needs(t / 2, t % 2), 1);
        for (int next = 1; next <= 5; next += 4) {
            x = classes(6, 0);
            for (int t = 0; t < 6; t++) x.action(t, 2, (t + next) % 6, 0, false);
            for (int t = 0; t < 6; t++) {
                for (int o = 0; o < 6; o++) due("needs(" + t + ", " + o + ")", x.needs(t, o), 1);
            }
        }
    }

    @Edge(promise = 21, says = "(what it asks for of itself is nothing here)")
    static void whatAsksForItselfAlone() {
        TypeStarts x = classes(2, 0);
        for (int kind = 0; kind <= 2; kind++) x.action(0, kind, 0, 0, false);
        due("needs(0, 0)", x.needs(0, 0), 0);
        x.action(1, 2, 0, 0, false);
        due("needs(1, 0)", x.needs(1, 0), 1);
        due("needs(1, 1)", x.needs(1, 1), 0);
        due("needs(0, 0)", x.needs(0, 0), 0);
    }

    @Edge(promise = 21, says = "A TYPE NEEDS another one, if that is in its LIST")
    static void theFirstAndTheLastOfItsList() {
        TypeStarts x = longestList();
        for (int t = 0; t < 5; t++) {
            due("needs(5, " + t + ")", x.needs(5, t), 1);
            due("needs(" + t + ", 5)", x.needs(t, 5), 0);
        }
        due("needs(5, 5)", x.needs(5, 5), 0);
        due("needs(4, 3), an INTERFACE's LIST is empty", x.needs(4, 3), 0);
        x = sorts(1, 0);
        x.face(1, 0);
        due("needs(1, 0), without a DEFAULT", x.needs(1, 0), 0);
    }

    @Edge(promise = 21, says = "or its BODY has an ACTION that ASKS FOR it")
    static void theLastOfFiveActionsAndThoseThatAskForNothing() {
        TypeStarts x = sorts(0, 1, 0, 0);
        x.type(0, 3);
        x.field(1);
        x.field(3);
        x.thread();
        x.action(10, 2, 2, 0, false);
        x.action(0, 4, 1, 0, false);
        x.action(0, 3, 1, 0, false);
        x.action(0, 0, 2, 0, false);
        x.action(0, 1, 1, 5, false);
        for (int t = 0; t < 5; t++) due("needs(0, " + t + ")", x.needs(0, t), 0);
        // Behind a THROW, too, and the TYPE whose FIELD it is, not the one that is named.
        x.action(0, 1, 4, 5, false);
        for (int t = 0; t < 5; t++) due("needs(0, " + t + ")", x.needs(0, t), t == 3 ? 1 : 0);
    }

    // ---- promise 22: search

    private static void isFound(TypeStarts x) {
        due("points() are found", x.points() > 0 ? 1 : 0, 1);
        due("stuck() is found", x.stuck() >= 0 ? 1 : 0, 1);
        due("outcome(0, 0) is found", x.outcome(0, 0) >= 0 ? 1 : 0, 1);
        due("holds()", x.holds(), 1);
    }

    private static void isNotFound(TypeStarts x) {
        due("points()", x.points(), STATE);
        due("stuck()", x.stuck(), STATE);
        due("outcome(0, 0)", x.outcome(0, 0), NO_NUMBER);
        due("witness(0, 0)", x.witness(0, 0), STATE);
        due("holds()", x.holds(), STATE);
    }

    @Edge(promise = 22, says = "ALL RUNS are gone through: how many OUTCOMES they have")
    static void oneOutcomeWhereNoThreadHasAStep() {
        TypeStarts x = new TypeStarts();
        due("search() of nothing", x.search(), 1);
        isFound(x);
        x = ring();
        turns(x, 0, 0, 1, 1);
        due("search(), all WAIT", x.search(), 1);
        due("stuck()", x.stuck(), 1);
        x = classes(0, 3);
        x.go(0);
        due("search(), all have ended", x.search(), 1);
        due("stuck()", x.stuck(), 0);
    }

    @Edge(promise = 22, says = "ALL RUNS from where the RUN stands: each STEP is of any THREAD that has one, till none has.")
    static void fewerOutcomesBehindTheStepThatTells() {
        TypeStarts x = ring();
        due("search()", x.search(), 2);
        turns(x, 0);
        due("search()", x.search(), 2);
        turns(x, 0, 0);
        due("search(), THREAD 0 has both", x.search(), 1);
        due("stuck()", x.stuck(), 0);
    }

    @Edge(promise = 22, says = "what stands on what in each THREAD")
    static void allRunsFromSixStartsOneOnTopOfAnother() {
        TypeStarts x = chain(1);
        manyTurns(x, 0, 6);
        due("search()", x.search(), 1);
        // Each START has to be through its LIST and DONE; then the ACTION and the end.
        due("points()", x.points(), 1 + 6 * 2 + 2);
        witnessIs(x, 0, new int[14]);
        for (int t = 0; t < 6; t++) due("outcome(0, " + (3 + t) + ")", x.outcome(0, 3 + t), 2);
        due("start(0, 5), the RUN stands where it stood", x.start(0, 5), 0);
    }

    @Edge(promise = 22, says = "An OUTCOME is what there is at the end of a RUN")
    static void twoPointsAtTheEndAreOneOutcome() {
        TypeStarts x = ring();
        x.thread();
        x.action(12, 2, 1, 0, false);
        // If they stick, THREAD 1 or 2 has 1: all three WAIT then, and the TYPES' states are the same.
        due("search()", x.search(), 2);
        due("stuck()", x.stuck(), 1);
        for (int h = 0; h < 3; h++) due("outcome(0, " + h + ")", x.outcome(0, h), 1);
        witnessIs(x, 0, 0, 0, 1, 1);
    }

    @Edge(promise = 22, says = "that is found till there is a STEP")
    static void aStepLosesWhatWasFound() {
        TypeStarts x = ring();
        isNotFound(x);
        x.search();
        isFound(x);
        turns(x, 0);
        isNotFound(x);
        x.search();
        isFound(x);
        due("go(0) has STEPS", x.go(0) > 0 ? 1 : 0, 1);
        isNotFound(x);
    }

    @Edge(promise = 22, says = "(a turn() that answers 0, a go() without one leave it)")
    static void whatIsNoStepLeavesWhatWasFound() {
        TypeStarts x = ring();
        turns(x, 0, 0, 1, 1);
        x.search();
        due("turn(0)", x.turn(0), 0);
        isFound(x);
        due("turn(2)", x.turn(2), NONE);
        isFound(x);
        due("go(0)", x.go(0), 0);
        isFound(x);
        x = classes(0, 1);
        turns(x, 0);
        x.search();
        due("turn(0)", x.turn(0), STATE);
        due("go(0)", x.go(0), 0);
        isFound(x);
    }

    @Edge(promise = 22, says = "begin(), or what lets the RUN be as at first")
    static void beginLosesWhatWasFoundEvenWithoutAStep() {
        TypeStarts x = ring();
        x.search();
        due("begin()", x.begin(), 0);
        isNotFound(x);
        turns(x, 0);
        x.search();
        due("begin()", x.begin(), 1);
        isNotFound(x);
    }

    @Edge(promise = 22, says = "or what lets the RUN be as at first")
    static void eachCallThatIsDoneLosesWhatWasFound() {
        for (int call = 0; call < 6; call++) {
            TypeStarts x = sorts(1, 0);
            due("search()", x.search(), 1);
            isFound(x);
            if (call == 0) due("type(0, -1)", x.type(0, -1), 2);
            if (call == 1) due("face(1, 0)", x.face(1, 0), 1);
            if (call == 2) due("field(0)", x.field(0), 1);
            if (call == 3) due("thread()", x.thread(), 0);
            if (call == 4) due("clear()", x.clear(), 2);
            if (call == 5) due("action(0, 3)", x.action(0, 3, 0, 0, false), 1);
            isNotFound(x);
        }
    }

    @Edge(promise = 22, says = "(each that is done lets the RUN be as at first)")
    static void whatIsRefusedLeavesWhatWasFound() {
        TypeStarts x = longestList();
        for (int h = 1; h < 3; h++) x.thread();
        for (int i = 0; i < 5; i++) x.action(0, 3, 0, 0, false);
        x.field(0);
        due("search()", x.search(), 1);
        due("type(0, 6)", x.type(0, 6), NONE);
        due("type(3, -1)", x.type(3, -1), BAD);
        due("type(1, 0)", x.type(1, 0), STATE);
        due("type(0, -1)", x.type(0, -1), FULL);
        due("face(6, 0)", x.face(6, 0), NONE);
        due("face(1, 0)", x.face(1, 0), STATE);
        due("face(5, 3)", x.face(5, 3), FULL);
        due("field(6)", x.field(6), NONE);
        due("field(0)", x.field(0), STATE);
        due("thread()", x.thread(), FULL);
        due("action(6, 3)", x.action(6, 3, 0, 0, false), NONE);
        due("action(1, 6)", x.action(1, 6, 0, 0, false), BAD);
        due("action(0, 3)", x.action(0, 3, 0, 0, false), FULL);
        isFound(x);
    }

    /**
     * THREAD 0 is in TYPE 0, ahead of nothing but its end, and the others WAIT for it: 1 POINT. From
     * the next one on 9, 14 and 19 STEPS of THREADS that have nothing to do with one another are left.
     */
    private static TypeStarts gate() {
        TypeStarts x = classes(5, 3);
        int[] passes = {0, 3, 5, 5, 4};
        for (int t = 0; t < 5; t++) {
            for (int i = 0; i < passes[t]; i++) x.action(t, 3, 0, 0, false);
        }
        for (int h = 0; h < 3; h++) x.action(10 + h, 2, 0, 0, false);
        x.action(10, 2, 1, 0, false);
        x.action(11, 2, 2, 0, false);
        for (int i = 0; i < 3; i++) x.action(11, 3, 0, 0, false);
        x.action(12, 2, 3, 0, false);
        x.action(12, 2, 4, 0, false);
        turns(x, 0, 0);
        return x;
    }

    @Edge(promise = 22, says = "FULL: there are more than 3000 POINTS")
    static void threeThousandPointsAndOneMore() {
        TypeStarts x = gate();
        due("search() of 1 + 10 * 15 * 20 POINTS", x.search(), FULL);
        isNotFound(x);
        turns(x, 0);
        due("search() of 10 * 15 * 20 POINTS", x.search(), 1);
        due("points()", x.points(), 3000);
        for (int k = 0; k < 42; k++) due("witness(0, " + k + ")", x.witness(0, k), k < 9 ? 0 : k < 23 ? 1 : 2);
        due("witness(0, 42)", x.witness(0, 42), NONE);
    }

    @Edge(promise = 22, says = "(with that where the RUN stands)")
    static void whereTheRunStandsIsTheOneTooMany() {
        TypeStarts x = gate();
        turns(x, 0);
        x.search();
        int ahead = x.points();
        due("points() behind the STEP, all that there are but one", ahead, 3000);
        x.begin();
        turns(x, 0, 0);
        due("search() from that one", x.search(), FULL);
        due("search() once more", x.search(), FULL);
    }

    /** What numbers the FIELDS can have behind all writes, counted by going through all their orders. */
    private static int finalsOf(int[][] writes) {
        Set<String> finals = new HashSet<>();
        addFinals(writes, new int[3], "000000", new HashSet<>(), finals);
        return finals.size();
    }

    private static void addFinals(int[][] writes, int[] made, String fields, Set<String> seen, Set<String> finals) {
        if (!seen.add(made[0] + "," + made[1] + "," + made[2] + ":" + fields)) return;
        boolean over = true;
        for (int h = 0; h < 3; h++) {
            int skip = made[h];
            for (int[] w : writes) {
                if (w[0] == 10 + h && skip-- == 0) {
                    over = false;
                    int[] next = made.clone();
                    next[h]++;
                    addFinals(writes, next, fields.substring(0, w[1]) + w[2] + fields.substring(w[1] + 1), seen, finals);
                }
            }
        }
        if (over) finals.add(fields);
    }

    @Edge(promise = 22, says = "or more than 60 OUTCOMES")
    static void sixtyOutcomesAndOneMore() {
        int[][] sixty = {
            {10, 1, 1}, {10, 0, 3}, {10, 2, 4}, {10, 3, 1},
            {11, 0, 2}, {11, 1, 2}, {11, 2, 2}, {11, 3, 2}, {11, 4, 2},
            {12, 1, 3}, {12, 2, 3}, {12, 4, 3}};
        due("so many OUTCOMES", finalsOf(sixty), 60);
        TypeStarts x = writers(sixty);
        due("search()", x.search(), 60);
        due("outcome(59, 14)", x.outcome(59, 14), 0);
        due("outcome(60, 14)", x.outcome(60, 14), NO_NUMBER);
        int[][] one = {
            {10, 4, 1}, {10, 3, 1}, {10, 5, 1}, {10, 2, 1},
            {11, 4, 2}, {11, 3, 2}, {11, 1, 2}, {11, 2, 2},
            {12, 2, 3}, {12, 4, 0}, {12, 5, 3}, {12, 3, 3}, {12, 1, 3}};
        due("so many OUTCOMES", finalsOf(one), 61);
        x = writers(one);
        due("search()", x.search(), FULL);
    }

    @Edge(promise = 22, says = "(then nothing is found)")
    static void nothingIsFoundWhereThereIsTooMuch() {
        TypeStarts x = apart(19);
        due("search()", x.search(), 1);
        isFound(x);
        x.action(5, 3, 0, 0, false);
        due("search() of 10 * 15 * 21 POINTS", x.search(), FULL);
        isNotFound(x);
        for (int i = -1; i <= 1; i++) {
            due("outcome(" + i + ", 0)", x.outcome(i, 0), NO_NUMBER);
            due("witness(" + i + ", 0)", x.witness(i, 0), STATE);
        }
        turns(x, 2);
        due("search() behind a STEP", x.search(), 1);
        isFound(x);
    }

    // ---- promise 23: points

    @Edge(promise = 23, says = "How many POINTS there are, with that where the RUN stands.")
    static void onePointWhereTheRunIsOver() {
        TypeStarts x = new TypeStarts();
        x.search();
        due("points() of nothing", x.points(), 1);
        for (int h = 1; h <= 3; h++) {
            x.thread();
            x.search();
            due("points() of " + h + " empty THREADS", x.points(), 1 << h);
        }
        for (int h = 0; h < 3; h++) {
            turns(x, h);
            x.search();
            due("points() when " + (h + 1) + " have ended", x.points(), 4 >> h);
        }
    }

    @Edge(promise = 23, says = "STATE: nothing is found.")
    static void noPointsBeforeASearch() {
        TypeStarts x = new TypeStarts();
        due("points()", x.points(), STATE);
        x.thread();
        due("points()", x.points(), STATE);
        x.search();
        due("points()", x.points(), 2);
        turns(x, 0);
        due("points()", x.points(), STATE);
    }

    @Edge(promise = 23, says = "(of a LIST, behind which of it that BEGAN from there, or that it is through)")
    static void aListThatBeganItsParentIsNotOneThatFoundItDone() {
        TypeStarts x = sorts(0);
        x.type(0, 0);
        x.thread();
        x.thread();
        x.action(10, 2, 1, 0, false);
        x.action(11, 2, 0, 0, false);
        // 0 is NEW: THREAD 0 ahead of all or in 1's LIST.
        int isNew = 2;
        // 0 is UNDER WAY: in THREAD 0, in its LIST or BODY; in THREAD 1 so, THREAD 0 as above.
        int isUnderWay = 2 + 2 * 2;
        // 0 is DONE: THREAD 1 ahead of its ACTION, behind it, or ended; THREAD 0 ahead of all, in
        // 1's LIST with nothing begun, in it behind 0, in 1's BODY, 1 DONE, behind its ACTION, or ended.
        int isDone = 3 * 7;
        x.search();
        due("points()", x.points(), isNew + isUnderWay + isDone);
    }

    @Edge(promise = 23, says = "(a BODY that was left is as one behind its last ACTION")
    static void leftOrBehindItsLastActionIsTheSame() {
        TypeStarts x = classes(1, 2);
        x.action(10, 0, 0, 0, false);
        x.action(10, 5, 0, 1, false);
        x.action(10, 0, 0, 0, false);
        x.action(11, 1, 0, 1, false);
        manyTurns(x, 1, 3);
        // THREAD 1 ahead of its WRITE: THREAD 0 has made 0 to 4 STEPS, and has READ 0 alone.
        int ahead = 5;
        // Behind it: ahead of all; behind the first READ with 0 or 1; behind the LEAVE with 0;
        // behind the last with 0, or with 1, be it that it was left; ended. When it has ended: the same.
        int behind = 7;
        x.search();
        due("points()", x.points(), ahead + 2 * behind);
    }

    @Edge(promise = 23, says = "of a THREAD that has ended its end alone counts)")
    static void whatAThreadReadDoesNotCountWhenItHasEnded() {
        TypeStarts x = classes(1, 2);
        x.action(10, 1, 0, 1, false);
        x.action(11, 0, 0, 0, false);
        manyTurns(x, 0, 3);
        // THREAD 0 ahead of its WRITE, behind it, ended; THREAD 1 ahead, behind with 0, ended; and
        // in two of the first behind with 1.
        x.search();
        due("points()", x.points(), 3 * 3 + 2);
    }

    @Edge(promise = 23, says = "their LATEST, and ends are the same")
    static void whatWasReadCountsInAThread() {
        TypeStarts x = classes(1, 2);
        x.action(10, 0, 0, 0, false);
        x.action(10, 5, 0, 1, false);
        x.action(10, 4, 1, 0, false);
        x.action(11, 1, 0, 1, false);
        x.action(11, 1, 0, 0, false);
        manyTurns(x, 1, 3);
        // THREAD 1 ahead of its first WRITE: THREAD 0 ahead, behind the READ and the LEAVE, ended with 1.
        int ahead = 4;
        // Behind it: with 1 behind the READ, behind all, and ended well, too. The same behind the next
        // one, and when it has ended.
        int behind = ahead + 3;
        due("search()", x.search(), 2);
        due("points()", x.points(), ahead + 3 * behind);
    }

    @Edge(promise = 23, says = "their LATEST, and ends are the same")
    static void whatWasReadCountsInAStart() {
        TypeStarts x = classes(2, 2);
        x.action(1, 0, 0, 0, false);
        x.action(1, 5, 0, 1, false);
        x.action(1, 4, 1, 0, false);
        x.action(10, 2, 1, 0, true);
        x.action(11, 1, 0, 1, false);
        x.action(11, 1, 0, 0, false);
        manyTurns(x, 1, 3);
        turns(x, 0, 0);
        // As of a THREAD's BODY; then 1 FAILED, and THREAD 0 is behind its ACTION, or has ended.
        int ahead = 3 + 2;
        // With 1 behind the READ and behind all; then 1 is DONE, and THREAD 0 ahead, behind, ended.
        int behind = ahead + 2 + 3;
        due("search()", x.search(), 2);
        due("points()", x.points(), ahead + 3 * behind);
    }

    @Edge(promise = 23, says = "how far the LISTS and BODIES are that stand there")
    static void whatAStartReadDoesNotCountWhenItIsDone() {
        TypeStarts x = classes(2, 2);
        x.action(1, 0, 0, 0, false);
        x.action(10, 2, 1, 0, false);
        x.action(11, 1, 0, 1, false);
        manyTurns(x, 1, 3);
        turns(x, 0, 0);
        // THREAD 0 ahead of the READ, behind it with 0; 1 DONE, and THREAD 0 ahead, behind, ended.
        int ahead = 5;
        // With 1 behind the READ, too. The same when THREAD 1 has ended.
        int behind = ahead + 1;
        x.search();
        due("points()", x.points(), ahead + 2 * behind);
    }

    @Edge(promise = 23, says = "how far the LISTS and BODIES are that stand there")
    static void whereATypeFailedDoesNotCount() {
        TypeStarts x = classes(1, 2);
        x.type(0, 0);
        x.action(0, 2, 1, 0, true);
        x.action(0, 4, 1, 0, false);
        x.action(1, 4, 1, 0, false);
        x.action(10, 2, 0, 0, true);
        x.action(11, 2, 1, 0, true);
        // By THREAD 0 alone 1 fails in its BODY, and 0 behind it; by THREAD 1 alone 0 fails, and
        // so 1 in its LIST. THREAD 1 is ahead of its ACTION, if nothing else is said.
        int bothNew = 1;
        int zeroBegun = 2;
        int oneBegunElsewhereToo = 2;
        int oneBegunAbove = 2;
        int oneFailed = 3;
        int zeroFailedBehindIt = 3 + 3;
        int oneBegunFirst = 1;
        int zeroBegunFromThere = 3;
        int bothFailedAndThread0Ahead = 2;
        x.search();
        due("points()", x.points(), bothNew + zeroBegun + oneBegunElsewhereToo + oneBegunAbove + oneFailed
            + zeroFailedBehindIt + oneBegunFirst + zeroBegunFromThere + bothFailedAndThread0Ahead);
    }

    // ---- promise 24: stuck

    @Edge(promise = 24, says = "In how many OUTCOMES a THREAD WAITS.")
    static void noneSomeAndAllOutcomesStick() {
        TypeStarts x = classes(3, 3);
        x.search();
        due("stuck(), none", x.stuck(), 0);
        x.action(0, 2, 1, 0, false);
        x.action(1, 2, 0, 0, false);
        x.action(10, 1, 2, 1, false);
        x.action(10, 2, 0, 0, false);
        x.action(11, 2, 1, 0, false);
        x.action(12, 1, 2, 2, false);
        // They stick or not, and 1 or 2 was written last: two THREADS that WAIT are one OUTCOME.
        due("search()", x.search(), 4);
        due("stuck(), some", x.stuck(), 2);
        turns(x, 1, 1);
        manyTurns(x, 0, 3 + 1 + 2);
        due("waits(0)", x.waits(0), 1);
        due("search()", x.search(), 1);
        due("stuck(), all", x.stuck(), 1);
    }

    @Edge(promise = 24, says = "STATE.")
    static void noStuckBeforeASearch() {
        TypeStarts x = ring();
        due("stuck()", x.stuck(), STATE);
        x.search();
        due("stuck()", x.stuck(), 1);
        x.begin();
        due("stuck()", x.stuck(), STATE);
    }

    // ---- promise 25: outcome

    @Edge(promise = 25, says = "Of OUTCOME i: what = 0 .. 2 THREADS, 3 .. 8 TYPES, 9 .. 14 FIELDS.")
    static void theFirstAndTheLastOfEach() {
        TypeStarts x = classes(6, 3);
        x.action(5, 4, 1, 0, false);
        x.action(10, 1, 0, -9, false);
        x.action(11, 1, 4, 9, false);
        x.action(12, 2, 5, 0, false);
        due("search()", x.search(), 1);
        int[] numbers = {2, 2, 5, 2, 0, 0, 0, 2, 3, -9, 0, 0, 0, 9, 0};
        for (int what = 0; what < 15; what++) due("outcome(0, " + what + ")", x.outcome(0, what), numbers[what]);
        x = classes(6, 3);
        x.action(12, 1, 5, -9, false);
        x.search();
        due("outcome(0, 14)", x.outcome(0, 14), -9);
        due("outcome(0, 8)", x.outcome(0, 8), 2);
    }

    @Edge(promise = 25, says = "-1000: none such, or nothing is found.")
    static void noSuchOutcomeOrNumber() {
        TypeStarts x = ring();
        for (int i : outside(0)) due("outcome(" + i + ", 0), nothing is found", x.outcome(i, 0), NO_NUMBER);
        due("search()", x.search(), 2);
        for (int i : outside(2)) {
            due("outcome(" + i + ", 0)", x.outcome(i, 0), NO_NUMBER);
            due("outcome(" + i + ", 14)", x.outcome(i, 14), NO_NUMBER);
        }
        for (int what : outside(15)) {
            due("outcome(0, " + what + ")", x.outcome(0, what), NO_NUMBER);
            due("outcome(1, " + what + ")", x.outcome(1, what), NO_NUMBER);
        }
        turns(x, 0);
        due("outcome(0, 0), found no more", x.outcome(0, 0), NO_NUMBER);
    }

    @Edge(promise = 25, says = "of THREADS 0 .. 2: 0 (there is none such), 1 it WAITS, 2 it ended well, 2 and what was thrown")
    static void threadsOfAnOutcomeFrom0To7() {
        for (int count = 0; count <= 3; count++) {
            TypeStarts x = classes(1, count);
            x.search();
            for (int h = 0; h < 3; h++) due("outcome(0, " + h + ")", x.outcome(0, h), h < count ? 2 : 0);
        }
        TypeStarts x = sorts(0, 0);
        for (int h = 0; h < 3; h++) x.thread();
        x.action(0, 2, 1, 0, false);
        x.action(1, 2, 0, 0, false);
        x.action(10, 2, 0, 0, false);
        x.action(11, 2, 1, 0, false);
        x.action(12, 0, 0, 0, false);
        turns(x, 0, 0, 1, 1);
        x.search();
        int[] ends = {1, 1, 7};
        for (int h = 0; h < 3; h++) due("outcome(0, " + h + ")", x.outcome(0, h), ends[h]);
    }

    @Edge(promise = 25, says = "of TYPES 0 .. 5: 0 NEW (or there is none such), 1, 2, 3")
    static void typesOfAnOutcomeFrom0To3() {
        TypeStarts x = new TypeStarts();
        x.search();
        for (int what = 3; what <= 8; what++) due("outcome(0, " + what + ")", x.outcome(0, what), 0);
        x = classes(5, 3);
        x.action(0, 2, 1, 0, false);
        x.action(1, 2, 0, 0, false);
        x.action(3, 4, 1, 0, false);
        x.action(10, 2, 0, 0, false);
        x.action(11, 2, 1, 0, false);
        x.action(12, 2, 2, 0, false);
        x.action(12, 2, 3, 0, false);
        turns(x, 0, 0, 1, 1);
        due("search()", x.search(), 1);
        int[] states = {1, 1, 2, 3, 0, 0};
        for (int t = 0; t < 6; t++) due("outcome(0, " + (3 + t) + ")", x.outcome(0, 3 + t), states[t]);
    }

    @Edge(promise = 25, says = "of their FIELDS the numbers (0 without)")
    static void fieldsOfAnOutcomeFromTheLeastToTheMost() {
        TypeStarts x = new TypeStarts();
        x.search();
        for (int what = 9; what <= 14; what++) due("outcome(0, " + what + ")", x.outcome(0, what), 0);
        x = sorts(0, 0, 0);
        x.field(0);
        x.field(2);
        x.thread();
        x.action(10, 1, 0, -9, false);
        x.action(10, 1, 2, 9, false);
        x.search();
        int[] numbers = {-9, 0, 9, 0, 0, 0};
        for (int t = 0; t < 6; t++) due("outcome(0, " + (9 + t) + ")", x.outcome(0, 9 + t), numbers[t]);
    }

    @Edge(promise = 25, says = "OUTCOMES are in order by these fifteen, from the first one on.")
    static void inOrderByTheFirstThatDiffersBeItTheLast() {
        TypeStarts x = writers(new int[][] {{10, 5, 9}, {11, 5, -9}, {12, 5, 0}});
        due("search()", x.search(), 3);
        int[] last = {-9, 0, 9};
        for (int i = 0; i < 3; i++) due("outcome(" + i + ", 14)", x.outcome(i, 14), last[i]);
        x = writers(new int[][] {{10, 0, -9}, {10, 1, 9}, {11, 0, 9}, {11, 1, -9}});
        due("search()", x.search(), 4);
        int[][] two = {{-9, -9}, {-9, 9}, {9, -9}, {9, 9}};
        for (int i = 0; i < 4; i++) {
            due("outcome(" + i + ", 9)", x.outcome(i, 9), two[i][0]);
            due("outcome(" + i + ", 10)", x.outcome(i, 10), two[i][1]);
        }
    }

    @Edge(promise = 25, says = "in order by these fifteen, from the first one on")
    static void threadsCountBeforeTypesAndTypesBeforeFields() {
        TypeStarts x = classes(2, 2);
        x.action(10, 0, 0, 0, false);
        x.action(10, 5, 0, 0, false);
        x.action(10, 4, 2, 0, false);
        x.action(11, 1, 0, 9, false);
        x.action(11, 0, 1, 0, false);
        // Without the WRITE before it THREAD 0 ends well, else with 2.
        due("search()", x.search(), 2);
        due("outcome(0, 0)", x.outcome(0, 0), 2);
        due("outcome(1, 0)", x.outcome(1, 0), 4);
        x = classes(3, 2);
        x.action(0, 1, 2, 5, false);
        x.action(0, 0, 1, 0, false);
        x.action(0, 5, 0, 0, false);
        x.action(0, 1, 2, -5, false);
        x.action(0, 4, 1, 0, false);
        x.action(10, 2, 0, 0, true);
        x.action(11, 1, 1, 9, false);
        // 0 is DONE and 2 has 5, or it FAILED and 2 has -5: the TYPE tells, not its FIELD.
        due("search()", x.search(), 2);
        due("outcome(0, 3)", x.outcome(0, 3), 2);
        due("outcome(0, 11)", x.outcome(0, 11), 5);
        due("outcome(1, 3)", x.outcome(1, 3), 3);
        due("outcome(1, 11)", x.outcome(1, 11), -5);
    }

    // ---- promise 26: witness

    @Edge(promise = 26, says = "The k-th number of OUTCOME i's WITNESS.")
    static void theFirstAndTheLastOfSixtySixNumbers() {
        // THREAD 0 starts all TYPES, the others pass: 55 * 7 * 7 POINTS, and no RUN has more STEPS.
        TypeStarts x = classes(6, 3);
        for (int t = 0; t < 6; t++) {
            for (int i = 0; i < 5; i++) x.action(t, i == 4 && t == 4 ? 2 : 3, 5, 0, false);
        }
        for (int i = 0; i < 5; i++) {
            x.action(10, 2, i, 0, false);
            x.action(11, 3, 0, 0, false);
            x.action(12, 3, 0, 0, false);
        }
        due("search()", x.search(), 1);
        int[] numbers = new int[66];
        for (int k = 54; k < 66; k++) numbers[k] = k < 60 ? 1 : 2;
        witnessIs(x, 0, numbers);
    }

    @Edge(promise = 26, says = "OUTCOME i's WITNESS")
    static void twoLongRowsSideBySide() {
        TypeStarts x = classes(6, 3);
        for (int t = 0; t < 6; t++) {
            for (int i = 0; i < 5; i++) x.action(t, i == 4 && t == 4 ? 2 : 3, 5, 0, false);
        }
        for (int i = 0; i < 5; i++) {
            x.action(10, 2, i, 0, false);
            x.action(11, i < 4 ? 3 : 1, 0, i < 4 ? 0 : 1, false);
            x.action(12, i < 4 ? 3 : 1, 0, i < 4 ? 0 : 2, false);
        }
        // 0 is DONE: 46 STEPS of THREAD 0 are left, 6 of each of the others, the WRITE the last but one.
        manyTurns(x, 0, 8);
        due("search()", x.search(), 2);
        due("points(), where both have written either was last", x.points(), 47 * (7 * 7 + 2 * 2));
        int[] first = new int[58];
        int[] second = new int[58];
        for (int k = 46; k < 58; k++) {
            first[k] = k < 50 || k == 55 || k == 56 ? 1 : 2;
            second[k] = k < 52 ? 1 : 2;
        }
        due("outcome(0, 9)", x.outcome(0, 9), 1);
        due("outcome(1, 9)", x.outcome(1, 9), 2);
        witnessIs(x, 0, first);
        witnessIs(x, 1, second);
    }

    @Edge(promise = 26, says = "OUTCOME i's WITNESS")
    static void eachOutcomeHasItsOwnWhicheverIsFoundFirst() {
        // Each THREAD's STEPS are a WRITE and its end; here is the WITNESS, if its WRITE is the last.
        int[][] rows = {{1, 1, 2, 0, 0, 2}, {0, 0, 2, 1, 1, 2}, {0, 0, 1, 1, 2, 2}};
        int[] numbers = {-9, 0, 9};
        int[][] orders = {{0, 1, 2}, {0, 2, 1}, {1, 0, 2}, {1, 2, 0}, {2, 0, 1}, {2, 1, 0}};
        for (int[] last : orders) {
            int[][] writes = new int[3][];
            for (int i = 0; i < 3; i++) writes[i] = new int[] {10 + last[i], 5, numbers[i]};
            TypeStarts x = writers(writes);
            due("search()", x.search(), 3);
            for (int i = 0; i < 3; i++) {
                due("outcome(" + i + ", 14)", x.outcome(i, 14), numbers[i]);
                witnessIs(x, i, rows[last[i]]);
            }
        }
    }

    @Edge(promise = 26, says = "STATE; NONE.")
    static void noSuchWitnessOrNumber() {
        TypeStarts x = ring();
        for (int i : outside(0)) {
            due("witness(" + i + ", 0), nothing is found", x.witness(i, 0), STATE);
            due("witness(0, " + i + "), nothing is found", x.witness(0, i), STATE);
        }
        due("search()", x.search(), 2);
        for (int i : outside(2)) due("witness(" + i + ", 0)", x.witness(i, 0), NONE);
        for (int k : outside(4)) due("witness(0, " + k + ")", x.witness(0, k), NONE);
        for (int k : outside(12)) due("witness(1, " + k + ")", x.witness(1, k), NONE);
        due("witness(0, 3)", x.witness(0, 3), 1);
        due("witness(1, 11)", x.witness(1, 11), 1);
        turns(x, 0);
        due("witness(0, 0)", x.witness(0, 0), STATE);
    }

    @Edge(promise = 26, says = "THE WITNESS of an OUTCOME is, of all rows of THREADS whose STEPS lead to it")
    static void noNumbersWhereTheRunIsOver() {
        TypeStarts x = new TypeStarts();
        x.search();
        witnessIs(x, 0);
        x = ring();
        turns(x, 0, 0, 1);
        x.search();
        witnessIs(x, 0, 1);
        turns(x, 1);
        x.search();
        witnessIs(x, 0);
    }

    @Edge(promise = 26, says = "the one whose numbers are least, from the first one on.")
    static void theLeastIsNotTheShortest() {
        TypeStarts x = classes(1, 2);
        x.action(10, 0, 0, 0, false);
        x.action(10, 5, 0, 1, false);
        x.action(10, 3, 0, 0, false);
        x.action(11, 1, 0, 1, false);
        manyTurns(x, 1, 3);
        // Behind the WRITE THREAD 0 would leave, a STEP sooner.
        due("search()", x.search(), 1);
        witnessIs(x, 0, 0, 0, 0, 0, 1, 1);
        x = ring();
        x.search();
        witnessIs(x, 0, 0, 0, 1, 1);
        witnessIs(x, 1, 0, 0, 0, 0, 0, 0, 0, 0, 0, 0, 1, 1);
    }

    // ---- promise 27: holds

    @Edge(promise = 27, says = "THE THEOREM: 1 if no THREAD WAITS in any OUTCOME")
    static void holdsWhereNoneWaits() {
        TypeStarts x = new TypeStarts();
        x.search();
        due("holds() of nothing", x.holds(), 1);
        x = classes(1, 3);
        for (int h = 0; h < 3; h++) x.action(10 + h, 2, 0, 0, false);
        x.search();
        due("stuck()", x.stuck(), 0);
        due("needs(0, 0)", x.needs(0, 0), 0);
        due("holds()", x.holds(), 1);
    }

    @Edge(promise = 27, says = "or some TYPE NEEDS itself")
    static void holdsWhereTheLastTypesAloneNeedThemselves() {
        TypeStarts x = classes(6, 2);
        x.action(4, 2, 5, 0, false);
        x.action(5, 2, 4, 0, false);
        x.action(10, 2, 4, 0, false);
        x.action(11, 2, 5, 0, false);
        x.search();
        due("stuck()", x.stuck(), 1);
        due("holds()", x.holds(), 1);
    }

    @Edge(promise = 27, says = "STATE.")
    static void noTheoremBeforeASearch() {
        TypeStarts x = ring();
        due("holds()", x.holds(), STATE);
        x.search();
        due("holds()", x.holds(), 1);
        x.clear();
        due("holds()", x.holds(), STATE);
        x = gate();
        x.search();
        due("holds(), there are too many POINTS", x.holds(), STATE);
    }
}
