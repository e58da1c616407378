import java.util.ArrayList;
import java.util.List;
import java.util.SortedMap;
import java.util.TreeMap;

/**
 * The sentences of "What it is" and "Terms" that name no boundary case, each by ordinary ones, with
 * the promise whose answers show it.
 */
final class TermsCases extends Cases {

    // ---- What it is

    @Edge(promise = 9, says = "A house in which types start: when something of a type is used first,")
    static void aTypeStartsWhenSomethingOfItIsUsedFirst() {
        for (int sort = 0; sort <= 2; sort++) {
            for (int kind = 0; kind <= 2; kind++) {
                if (sort > 0 && kind == 1) continue;
                TypeStarts x = sorts(sort);
                x.field(0);
                x.thread();
                x.action(10, 3, 0, 0, false);
                x.action(10, kind, 0, 0, false);
                x.action(10, kind, 0, 0, false);
                turns(x, 0);
                due("state(0), it was named alone", x.state(0), 0);
                turns(x, 0);
                due("state(0), it is used", x.state(0), 1);
                turns(x, 0, 0, 0, 0);
                due("state(0), it is used once more", x.state(0), 2);
                turns(x, 0);
                due("end(0)", x.end(0), 2);
            }
        }
    }

    @Edge(promise = 18, says = "rings of one thread go on and see zeros")
    static void aRingOfThreeInOneThread() {
        TypeStarts x = classes(3, 1);
        for (int t = 0; t < 3; t++) {
            x.action(t, 0, (t + 1) % 3, 0, false);
            x.action(t, 1, t, t + 4, false);
        }
        x.action(10, 2, 0, 0, false);
        // Each has 5 STEPS of its own; the THREAD has its USE and its end.
        due("go(0)", x.go(0), 3 * 5 + 2);
        int[] read = {5, 6, 0};
        for (int t = 0; t < 3; t++) row(x, t, 0, 0, t);
        for (int t = 2; t >= 0; t--) {
            row(x, 3 + 2 * (2 - t), 0, 3, read[t]);
            row(x, 4 + 2 * (2 - t), 0, 1, t);
        }
        row(x, 9, 0, 5, 0);
        rowsAre(x, 10);
    }

    @Edge(promise = 15, says = "rings of several stick")
    static void aRingOfThreeInThreeThreads() {
        TypeStarts x = classes(3, 3);
        for (int t = 0; t < 3; t++) {
            x.action(t, 0, (t + 1) % 3, 0, true);
            x.action(10 + t, 2, t, 0, true);
        }
        turns(x, 0, 1, 2, 0, 1, 2);
        for (int h = 0; h < 3; h++) {
            due("end(" + h + ")", x.end(h), 1);
            due("waits(" + h + ")", x.waits(h), (h + 1) % 3);
            due("turn(" + h + ")", x.turn(h), 0);
        }
        due("go(0)", x.go(0), 0);
        rowsAre(x, 3);
    }

    @Edge(promise = 1, says = "what later calls answer is free.")
    static void laterCallsThrowNothingAllTheSame() {
        TypeStarts x = longest();
        for (int round = 0; round < 300; round++) {
            x.go(round);
            x.search();
            x.turn(round % 4);
            x.log(round, round % 4);
            x.witness(0, round);
            x.action(round % 14, round % 7, round % 8, round % 11, true);
            x.begin();
            x.turn(round % 3);
        }
        due("clear() of another object", new TypeStarts().clear(), 0);
    }

    // ---- Terms: the two ways to go

    @Edge(promise = 9, says = "Threads go by turns that are told")
    static void noOtherThreadGoesAndNoOtherCall() {
        TypeStarts x = classes(3, 3);
        for (int h = 0; h < 3; h++) x.action(10 + h, 2, h, 0, false);
        turns(x, 1);
        for (int h = 0; h < 3; h++) {
            due("state(" + h + ")", x.state(h), h == 1 ? 1 : 0);
            due("start(" + h + ", 0)", x.start(h, 0), h == 1 ? 1 : NONE);
            due("end(" + h + ")", x.end(h), 0);
            due("waits(" + h + ")", x.waits(h), NONE);
            due("value(" + h + ")", x.value(h), 0);
        }
        x.search();
        x.holds();
        due("steps()", x.steps(), 1);
        rowsAre(x, 1);
        turns(x, 2);
        due("state(2)", x.state(2), 1);
        due("state(0)", x.state(0), 0);
    }

    /** What there is at the end of a RUN, as the calls of the run tell it. */
    private static List<Integer> endOfRun(TypeStarts x) {
        List<Integer> numbers = new ArrayList<>();
        for (int h = 0; h < 3; h++) numbers.add(Math.max(0, x.end(h)));
        for (int t = 0; t < 6; t++) numbers.add(Math.max(0, x.state(t)));
        for (int t = 0; t < 6; t++) numbers.add(x.value(t) == NO_NUMBER ? 0 : x.value(t));
        return numbers;
    }

    private static int compareRows(List<Integer> one, List<Integer> other) {
        for (int i = 0; i < Math.min(one.size(), other.size()); i++) {
            if (!one.get(i).equals(other.get(i))) return Integer.compare(one.get(i), other.get(i));
        }
        return Integer.compare(one.size(), other.size());
    }

    /** Tells all rows of turns, the least first, and keeps the first row to each end. */
    private static void tellAllTurns(TypeStarts x, List<Integer> told, SortedMap<List<Integer>, List<Integer>> first) {
        boolean over = true;
        for (int h = 0; h < 3; h++) {
            x.begin();
            for (int t : told) x.turn(t);
            if (x.turn(h) != 1) continue;
            over = false;
            told.add(h);
            tellAllTurns(x, told, first);
            told.remove(told.size() - 1);
        }
        if (over) first.putIfAbsent(endOfRun(x), new ArrayList<>(told));
    }

    private static void isWhatAllTurnsTell(TypeStarts x, int ends) {
        SortedMap<List<Integer>, List<Integer>> first = new TreeMap<>(TermsCases::compareRows);
        tellAllTurns(x, new ArrayList<>(), first);
        due("ends of all rows of turns", first.size(), ends);
        x.begin();
        due("search()", x.search(), ends);
        int i = 0;
        for (List<Integer> end : first.keySet()) {
            for (int what = 0; what < 15; what++) {
                due("outcome(" + i + ", " + what + ")", x.outcome(i, what), end.get(what));
            }
            witnessIs(x, i, first.get(end).stream().mapToInt(Integer::intValue).toArray());
            i++;
        }
    }

    @Edge(promise = 22, says = "and all ways in which turns could be told are gone through.")
    static void searchFindsWhatAllRowsOfTurnsLeadTo() {
        isWhatAllTurnsTell(ring(), 2);
        // The last WRITE tells the number; THREAD 2 throws.
        TypeStarts x = classes(1, 3);
        x.action(10, 1, 0, 5, false);
        x.action(11, 1, 0, -5, false);
        x.action(12, 4, 2, 0, false);
        isWhatAllTurnsTell(x, 2);
        // What THREAD 0 READS tells whether 1 BEGINS, and that fails; or THREAD 0 does.
        x = classes(2, 2);
        x.action(1, 4, 1, 0, false);
        x.action(10, 0, 0, 0, false);
        x.action(10, 5, 0, 3, false);
        x.action(10, 2, 1, 0, false);
        x.action(11, 1, 0, 3, false);
        isWhatAllTurnsTell(x, 2);
        // Late in the RUN it is told which WRITE is the last one.
        x = classes(1, 2);
        x.action(10, 2, 0, 0, false);
        x.action(10, 3, 0, 0, false);
        x.action(10, 1, 0, 1, false);
        x.action(11, 1, 0, 2, false);
        isWhatAllTurnsTell(x, 2);
        // A PARENT that is UNDER WAY and needs its own child: each is begun first by one THREAD.
        x = sorts(0);
        x.type(0, 0);
        x.action(0, 2, 1, 0, true);
        x.thread();
        x.thread();
        x.action(10, 2, 0, 0, false);
        x.action(11, 2, 1, 0, false);
        isWhatAllTurnsTell(x, 2);
    }

    // ---- Terms: TYPES, BODIES, KINDS

    @Edge(promise = 2, says = "are CLASSES or INTERFACES, these with a DEFAULT or without.")
    static void whatEachSortIsGoodFor() {
        for (int sort = 0; sort <= 2; sort++) {
            TypeStarts x = sorts(sort);
            due("a PARENT of sort " + sort, x.type(0, 0), sort == 0 ? 1 : STATE);
            x = sorts(sort, 0);
            due("a FACE of sort " + sort, x.face(1, 0), sort == 0 ? STATE : 1);
            due("list(1, 0)", x.list(1, 0), sort == 2 ? 0 : NONE);
            x = sorts(0);
            due("a PARENT for sort " + sort, x.type(sort, 0), sort == 0 ? 1 : STATE);
            x = sorts(2, sort);
            due("a FACE for sort " + sort, x.face(1, 0), 1);
            due("list(1, 0)", x.list(1, 0), sort == 0 ? 0 : NONE);
        }
    }

    @Edge(promise = 7, says = "BODIES: of each TYPE its START's, and of THREADS 0 .. 2;")
    static void nineBodiesAndEachHasItsOwnActions() {
        TypeStarts x = classes(6, 3);
        for (int t = 0; t < 6; t++) due("action(" + t + ", 1)", x.action(t, 1, t, t + 1, false), 1);
        for (int h = 0; h < 3; h++) {
            due("action(" + (10 + h) + ", 0)", x.action(10 + h, 0, h, 0, false), 1);
            due("action(" + (10 + h) + ", 0)", x.action(10 + h, 0, h + 3, 0, false), 2);
        }
        for (int h = 0; h < 3; h++) {
            // Twice 4 STEPS of a START and the READ; the end.
            manyTurns(x, h, 11);
            due("end(" + h + ")", x.end(h), 2);
            row(x, 7 * h + 2, h, 3, h + 1);
            row(x, 7 * h + 5, h, 3, h + 4);
        }
        for (int t = 0; t < 6; t++) due("value(" + t + ")", x.value(t), t + 1);
    }

    @Edge(promise = 18, says = "KINDS of ACTIONS: 0 READ the FIELD through TYPE a:")
    static void aReadThroughAChildAndThroughAFace() {
        TypeStarts x = sorts(0, 1);
        x.type(0, 0);
        x.type(0, 0);
        x.face(3, 1);
        x.field(0);
        x.field(1);
        x.action(0, 1, 0, 6, false);
        x.action(1, 1, 1, -7, false);
        x.thread();
        x.action(10, 0, 2, 0, false);
        x.action(10, 0, 3, 0, false);
        x.go(0);
        row(x, 2, 0, 3, 6);
        row(x, 5, 0, 3, -7);
        due("state(2)", x.state(2), 0);
        due("state(3)", x.state(3), 0);
    }

    @Edge(promise = 14, says = "1 WRITE: the FIELD through TYPE a becomes v.")
    static void aWriteThroughAChild() {
        TypeStarts x = classes(1, 1);
        x.type(0, 0);
        x.type(0, 1);
        x.field(2);
        int[] numbers = {5, -9, 9, 0};
        for (int v : numbers) x.action(10, 1, 1, v, false);
        manyTurns(x, 0, 3);
        for (int v : numbers) {
            turns(x, 0);
            due("value(0)", x.value(0), v);
            due("value(1)", x.value(1), NO_NUMBER);
            due("value(2)", x.value(2), 0);
        }
    }

    @Edge(promise = 12, says = "2 USE TYPE a.")
    static void aUseStartsTheTypeThatIsNamed() {
        TypeStarts x = sorts(1, 0);
        x.face(1, 0);
        x.field(0);
        x.thread();
        x.action(10, 2, 1, 0, false);
        due("go(0)", x.go(0), 5);
        due("state(1)", x.state(1), 2);
        due("state(0), whose FIELD it is", x.state(0), 0);
        rowsAre(x, 3);
    }

    @Edge(promise = 15, says = "4 THROW: a 1 or 2.")
    static void bothThatCanBeThrown() {
        TypeStarts x = classes(0, 2);
        for (int h = 0; h < 2; h++) {
            x.action(10 + h, 4, h + 1, 0, true);
            x.action(10 + h, 4, h + 1, 0, false);
            turns(x, h, h);
        }
        due("end(0), the RUN was as at first for a while", x.end(0), 0);
        turns(x, 0, 0);
        for (int h = 0; h < 2; h++) due("end(" + h + ")", x.end(h), 3 + h);
    }

    // ---- Terms: a RUN

    @Edge(promise = 12, says = "A RUN. A TYPE is NEW, UNDER WAY in a THREAD, DONE or FAILED;")
    static void theFourStatesOfAType() {
        TypeStarts x = classes(4, 2);
        x.action(3, 4, 1, 0, false);
        x.action(10, 2, 2, 0, false);
        x.action(10, 2, 3, 0, true);
        x.action(11, 2, 1, 0, false);
        manyTurns(x, 0, 4 + 3);
        turns(x, 1);
        int[] states = {0, 1, 2, 3};
        for (int t = 0; t < 4; t++) {
            due("state(" + t + ")", x.state(t), states[t]);
            due("in(" + t + ")", x.in(t), t == 1 ? 1 : NONE);
        }
    }

    @Edge(promise = 17, says = "Within a THREAD STARTS that are UNDER WAY stand one on top of another, the THREAD's BODY lowest of all.")
    static void twoThreadsWithStartsOfTheirOwn() {
        TypeStarts x = sorts(0);
        x.type(0, 0);
        x.type(0, -1);
        x.type(0, -1);
        x.type(0, 3);
        x.action(2, 2, 1, 0, false);
        x.thread();
        x.thread();
        x.action(10, 2, 2, 0, false);
        x.action(11, 2, 4, 0, false);
        // In THREAD 0 an ACTION of 2 begins 1, and the LIST of 1 begins 0; in THREAD 1 a LIST alone.
        turns(x, 0, 1, 0, 1, 0, 0);
        int[][] due = {{2, 1, 0, NONE}, {4, 3, NONE, NONE}};
        for (int h = 0; h < 2; h++) {
            for (int i = 0; i < 4; i++) due("start(" + h + ", " + i + ")", x.start(h, i), due[h][i]);
        }
        turns(x, 0, 0);
        due("start(0, 2), 0 is DONE", x.start(0, 2), NONE);
        due("start(0, 1)", x.start(0, 1), 1);
    }

    @Edge(promise = 18, says = "A START goes through its LIST, then through its BODY.")
    static void theListComesAheadOfTheFirstAction() {
        TypeStarts x = sorts(0, 2);
        x.type(0, 0);
        x.face(2, 1);
        x.field(2);
        x.thread();
        x.action(2, 0, 2, 0, false);
        x.action(10, 2, 2, 0, false);
        x.go(0);
        int[][] rows = {{0, 2}, {0, 0}, {1, 0}, {0, 1}, {1, 1}, {3, 0}, {1, 2}, {5, 0}};
        for (int i = 0; i < rows.length; i++) row(x, i, 0, rows[i][0], rows[i][1]);
        rowsAre(x, rows.length);
    }

    @Edge(promise = 9, says = "A STEP of a THREAD, by what stands on top:")
    static void whatStandsBelowGoesOnWhenTheTopIsOver() {
        TypeStarts x = classes(3, 1);
        x.action(0, 2, 1, 0, false);
        x.action(0, 1, 2, 8, false);
        x.action(1, 1, 2, 7, false);
        x.action(10, 2, 2, 0, false);
        x.action(10, 2, 0, 0, false);
        x.action(10, 1, 2, 9, false);
        manyTurns(x, 0, 4);
        // 0 begins, is through its LIST, begins 1, which is through its LIST.
        manyTurns(x, 0, 4);
        due("value(2)", x.value(2), 0);
        turns(x, 0);
        due("value(2), by 1", x.value(2), 7);
        turns(x, 0, 0);
        due("value(2), 1 is DONE, and the USE of it", x.value(2), 7);
        turns(x, 0);
        due("value(2), by 0", x.value(2), 8);
        turns(x, 0, 0);
        due("value(2), 0 is DONE, and the USE of it", x.value(2), 8);
        turns(x, 0);
        due("value(2), by the THREAD", x.value(2), 9);
    }

    @Edge(promise = 9, says = "- a BODY ahead of 3, 5: it is done.")
    static void passAndLeaveTakeAStepAndTellNothing() {
        TypeStarts x = classes(1, 1);
        x.action(10, 3, 0, 0, false);
        x.action(10, 5, 0, 1, false);
        x.action(10, 3, 0, 0, true);
        x.action(10, 5, 0, 1, true);
        x.action(10, 5, 0, 0, true);
        for (int i = 0; i < 5; i++) {
            turns(x, 0);
            due("end(0)", x.end(0), 0);
            rowsAre(x, 0);
        }
        due("state(0)", x.state(0), 0);
        turns(x, 0);
        row(x, 0, 0, 5, 0);
    }

    @Edge(promise = 9, says = "4: a is thrown by the ACTION.")
    static void aThrowIsCaughtByItsOwnGuardAlone() {
        TypeStarts x = classes(1, 1);
        x.action(10, 4, 2, 0, true);
        x.action(10, 4, 1, 0, true);
        x.action(10, 4, 2, 0, false);
        x.action(10, 3, 0, 0, true);
        turns(x, 0, 0);
        row(x, 0, 0, 4, 2);
        row(x, 1, 0, 4, 1);
        due("end(0)", x.end(0), 0);
        turns(x, 0);
        row(x, 2, 0, 5, 2);
        due("end(0)", x.end(0), 4);
    }

    @Edge(promise = 9, says = "then it is thrown by what is on top now: by its ACTION,")
    static void theActionOfAStartBelowCatchesOrThrowsOn() {
        for (int guard = 0; guard <= 1; guard++) {
            TypeStarts x = classes(2, 1);
            x.action(0, 4, 1, 0, false);
            x.action(1, 2, 0, 0, guard == 1);
            x.action(10, 2, 1, 0, true);
            manyTurns(x, 0, 5);
            row(x, 2, 0, 2, 0);
            if (guard == 1) row(x, 3, 0, 4, 3);
            else row(x, 3, 0, 2, 1);
            due("state(1)", x.state(1), guard == 1 ? 1 : 3);
            turns(x, 0);
            due("state(1)", x.state(1), guard == 1 ? 2 : 3);
            due("end(0)", x.end(0), guard == 1 ? 0 : 2);
        }
    }

    // ---- Terms: ALL RUNS

    @Edge(promise = 23, says = "Two POINTS of RUNS are the same, if TYPES' states,")
    static void pointsThatDifferInAStateAlone() {
        TypeStarts x = classes(2, 2);
        x.action(10, 0, 0, 0, false);
        x.action(10, 5, 0, 1, false);
        x.action(10, 2, 1, 0, false);
        x.action(11, 1, 0, 1, false);
        manyTurns(x, 1, 3);
        // THREAD 1 ahead of its WRITE: THREAD 0 ahead of all, behind its READ of 0, behind the LEAVE;
        // 1 in its LIST, in its BODY, DONE; THREAD 0 behind the USE, ended.
        int ahead = 8;
        // Behind it, too: behind a READ of 1, left, and ended with 1 NEW. The same when it has ended.
        int behind = ahead + 3;
        due("search()", x.search(), 2);
        due("points()", x.points(), ahead + 2 * behind);
    }

    @Edge(promise = 23, says = "in which THREADS they are,")
    static void whoHasATypeUnderWayCountsAndWhoHadItDoesNot() {
        TypeStarts x = sorts(0);
        for (int h = 0; h < 3; h++) {
            x.thread();
            x.action(10 + h, 2, 0, 0, false);
        }
        // 0 is NEW; in one of three, in its LIST or BODY; DONE, and each THREAD ahead, behind, ended.
        due("search()", x.search(), 1);
        due("points()", x.points(), 1 + 3 * 2 + 3 * 3 * 3);
    }

    @Edge(promise = 23, says = "FIELDS,")
    static void pointsThatDifferInAFieldAlone() {
        TypeStarts x = classes(1, 2);
        x.action(10, 1, 0, 1, false);
        x.action(11, 1, 0, 2, false);
        manyTurns(x, 0, 3);
        // None has written; one has, and is behind that or has ended; both have, and either was last.
        due("search()", x.search(), 2);
        due("points()", x.points(), 1 + 2 * 2 + 2 * 2 * 2);
    }

    // ---- Terms: answers

    @Edge(promise = 12, says = "Answers: NONE there is no such thing;")
    static void nothingIsThereAtFirst() {
        TypeStarts x = new TypeStarts();
        due("type(0, 0)", x.type(0, 0), -1);
        due("face(0, 0)", x.face(0, 0), -1);
        due("field(0)", x.field(0), -1);
        due("action(0, 4)", x.action(0, 4, 1, 0, false), -1);
        due("action(10, 4)", x.action(10, 4, 1, 0, false), -1);
        due("turn(0)", x.turn(0), -1);
        due("state(0)", x.state(0), -1);
        due("in(0)", x.in(0), -1);
        due("end(0)", x.end(0), -1);
        due("waits(0)", x.waits(0), -1);
        due("start(0, 0)", x.start(0, 0), -1);
        due("list(0, 0)", x.list(0, 0), -1);
        due("through(0)", x.through(0), -1);
        due("needs(0, 0)", x.needs(0, 0), -1);
        x.search();
        due("witness(0, 0)", x.witness(0, 0), -1);
    }

    @Edge(promise = 7, says = "BAD a number is outside its range;")
    static void numbersOutsideTheirRange() {
        TypeStarts x = classes(1, 1);
        due("type(3, -1)", x.type(3, -1), -2);
        due("a kind", x.action(0, 6, 0, 0, false), -2);
        due("what is thrown", x.action(10, 4, 3, 0, false), -2);
        due("what is written", x.action(0, 1, 0, 10, false), -2);
        due("v of a READ", x.action(0, 0, 0, 1, false), -2);
        due("a of a LEAVE", x.action(10, 5, 1, 0, false), -2);
    }

    @Edge(promise = 9, says = "STATE it can't be so, or not now;")
    static void whatCantBeSoAndWhatCantBeNow() {
        TypeStarts x = sorts(0, 1);
        x.thread();
        due("an INTERFACE as a PARENT", x.type(0, 1), -3);
        due("a CLASS as a FACE", x.face(1, 0), -3);
        x.field(0);
        due("a second FIELD", x.field(0), -3);
        due("points(), there was no search()", x.points(), -3);
        turns(x, 0);
        due("turn(0), it has ended", x.turn(0), -3);
        x.search();
        due("points(), there was", x.points(), 1);
    }

    @Edge(promise = 5, says = "FULL; the first that fits.")
    static void noRoomForOneMore() {
        TypeStarts x = sorts(1, 1, 1, 1, 0, 0);
        due("a seventh TYPE", x.type(0, -1), -4);
        for (int f = 0; f < 3; f++) x.face(5, f);
        due("a fourth FACE", x.face(5, 3), -4);
        due("a fourth FACE that can't be so", x.face(5, 4), -3);
        for (int h = 0; h < 3; h++) due("thread()", x.thread(), h);
        due("a fourth THREAD", x.thread(), -4);
        for (int i = 0; i < 5; i++) x.action(12, 3, 0, 0, false);
        due("a sixth ACTION", x.action(12, 3, 0, 0, false), -4);
        due("a sixth ACTION of a TYPE that is not there", x.action(12, 3, 6, 0, false), -1);
    }
}
