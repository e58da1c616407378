/** The boundary cases of promises 8 to 18: the run. */
final class RunEdges extends Cases {

    // ---- promise 8: begin

    @Edge(promise = 8, says = "how many STEPS it had.")
    static void beginCountsFrom0To66() {
        TypeStarts x = longest();
        due("begin() without a STEP", x.begin(), 0);
        turns(x, 0);
        due("begin() behind one", x.begin(), 1);
        due("begin() once more", x.begin(), 0);
        x.go(0);
        due("begin() behind the most", x.begin(), 66);
        x = ring();
        turns(x, 0, 0, 1, 1);
        x.turn(0);
        x.turn(2);
        due("begin(), what was no STEP does not count", x.begin(), 4);
    }

    @Edge(promise = 8, says = "The RUN is as at first")
    static void beginOfARunThatSticks() {
        TypeStarts x = ring();
        turns(x, 1, 1, 0, 0);
        x.begin();
        for (int t = 0; t < 2; t++) {
            due("state(" + t + ")", x.state(t), 0);
            due("in(" + t + ")", x.in(t), NONE);
            due("end(" + t + ")", x.end(t), 0);
            due("waits(" + t + ")", x.waits(t), NONE);
            due("start(" + t + ", 0)", x.start(t, 0), NONE);
        }
        due("steps()", x.steps(), 0);
        due("log(0, 0)", x.log(0, 0), NO_NUMBER);
        manyTurns(x, 0, 10);
        due("end(0)", x.end(0), 2);
    }

    @Edge(promise = 8, says = "at first all are NEW, and each THREAD stands ahead of its BODY's first ACTION")
    static void beginOfARunThatHasEnded() {
        TypeStarts x = classes(2, 2);
        x.action(0, 1, 0, 9, false);
        x.action(1, 4, 1, 0, false);
        x.action(10, 0, 0, 0, false);
        x.action(10, 5, 0, 9, false);
        x.action(11, 2, 1, 0, false);
        // 4 STEPS for 0, the READ, the LEAVE and the end; 3 STEPS in whose last THREAD 1 ends with 3.
        due("go(0)", x.go(0), 10);
        due("end(0)", x.end(0), 2);
        due("end(1)", x.end(1), 5);
        due("begin()", x.begin(), 10);
        due("state(0), it was DONE", x.state(0), 0);
        due("state(1), it FAILED", x.state(1), 0);
        due("value(0)", x.value(0), 0);
        due("end(0)", x.end(0), 0);
        due("end(1)", x.end(1), 0);
        due("go(0)", x.go(0), 10);
    }

    @Edge(promise = 8, says = "its number is LATEST in the BODY (at first 0)")
    static void beginLetsLatestBe0() {
        TypeStarts x = classes(1, 1);
        x.action(0, 1, 0, 5, false);
        x.action(10, 5, 0, 5, false);
        x.action(10, 0, 0, 0, false);
        manyTurns(x, 0, 6);
        row(x, 2, 0, 3, 5);
        x.begin();
        turns(x, 0, 0);
        row(x, 0, 0, 0, 0);
    }

    // ---- promise 9: turn

    @Edge(promise = 9, says = "A STEP of a THREAD: 1; 0 it WAITS.")
    static void aThreadThatWaitsHasNoStep() {
        TypeStarts x = ring();
        turns(x, 0, 0, 1);
        for (int i = 0; i < 3; i++) due("turn(0)", x.turn(0), 0);
        due("steps()", x.steps(), 3);
        rowsAre(x, 2);
        due("start(0, 0)", x.start(0, 0), 0);
        due("start(0, 1)", x.start(0, 1), NONE);
        due("in(1)", x.in(1), 1);
        due("end(0)", x.end(0), 1);
    }

    @Edge(promise = 9, says = "NONE; STATE: it has ended.")
    static void turnOfNoThread() {
        for (int count = 0; count <= 3; count++) {
            TypeStarts x = classes(1, count);
            for (int h : outside(count)) due("turn(" + h + ")", x.turn(h), NONE);
            due("steps()", x.steps(), 0);
        }
    }

    @Edge(promise = 9, says = "STATE: it has ended.")
    static void turnOfAThreadThatHasEnded() {
        TypeStarts x = classes(0, 3);
        x.action(11, 4, 1, 0, false);
        turns(x, 0, 1);
        due("turn(0), it ended well", x.turn(0), STATE);
        due("turn(1), it ended with 1", x.turn(1), STATE);
        due("steps()", x.steps(), 2);
        rowsAre(x, 2);
        turns(x, 2);
        for (int h = 0; h < 3; h++) due("turn(" + h + ")", x.turn(h), STATE);
    }

    @Edge(promise = 9, says = "the next one, if it is NEW, BEGINS")
    static void theLongestListBeginsOneByOne() {
        TypeStarts x = longestList();
        x.action(10, 2, 5, 0, false);
        turns(x, 0);
        for (int t = 0; t < 5; t++) {
            turns(x, 0);
            due("state(" + t + ")", x.state(t), 1);
            due("start(0, 1)", x.start(0, 1), t);
            if (t < 4) due("state(" + (t + 1) + ")", x.state(t + 1), 0);
            turns(x, 0, 0);
            due("state(" + t + ")", x.state(t), 2);
        }
        turns(x, 0);
        due("state(5), it is through its LIST", x.state(5), 1);
        turns(x, 0);
        due("state(5)", x.state(5), 2);
    }

    @Edge(promise = 9, says = "- a START in its LIST: those of the LIST that are DONE, or UNDER WAY in this THREAD, are passed over")
    static void aWholeListThatIsDoneIsPassedOverInOneStep() {
        TypeStarts x = longestList();
        for (int t = 0; t <= 2; t++) x.action(10, 2, t, 0, false);
        x.action(10, 2, 4, 0, false);
        x.action(4, 2, 3, 0, false);
        x.action(10, 2, 5, 0, false);
        // 4 STEPS for each of 0, 1 and 2; for 4, that uses 3, four more, and its own.
        manyTurns(x, 0, 3 * 4 + 4 + 4);
        due("state(4)", x.state(4), 2);
        turns(x, 0);
        due("state(5)", x.state(5), 1);
        turns(x, 0, 0);
        due("state(5)", x.state(5), 2);
    }

    @Edge(promise = 9, says = "or UNDER WAY in this THREAD, are passed over")
    static void aParentUnderWayInTheSameThreadIsPassedOver() {
        TypeStarts x = sorts(0);
        x.type(0, 0);
        x.action(0, 2, 1, 0, false);
        x.thread();
        x.action(10, 2, 0, 0, false);
        turns(x, 0, 0, 0, 0, 0);
        due("state(1)", x.state(1), 2);
        due("state(0)", x.state(0), 1);
    }

    @Edge(promise = 9, says = "if it is FAILED, 4 is thrown by the START")
    static void aListWhoseFirstOrLastFailed() {
        for (int failed = 0; failed <= 4; failed += 4) {
            TypeStarts x = longestList();
            x.action(failed, 4, 2, 0, false);
            // What its own BODY would catch is thrown ahead of it.
            for (int i = 0; i < 5; i++) x.action(5, 3, 0, 0, true);
            x.action(10, 2, failed, 0, true);
            x.action(10, 2, 5, 0, true);
            x.go(0);
            due("state(5)", x.state(5), 3);
            due("state(1)", x.state(1), failed == 0 ? 0 : 2);
            due("end(0)", x.end(0), 2);
            int rows = failed == 0 ? 3 + 3 : 3 + 3 + 2 * 4;
            row(x, rows - 2, 0, 2, 5);
            row(x, rows - 1, 0, 4, 4);
            row(x, rows, 0, 5, 0);
        }
    }

    @Edge(promise = 9, says = "If none is left, the START is ahead of its BODY's first ACTION.")
    static void anEmptyListTakesAStep() {
        TypeStarts x = classes(1, 1);
        x.action(0, 1, 0, 5, false);
        x.action(10, 2, 0, 0, false);
        turns(x, 0, 0);
        due("value(0), the first ACTION is ahead", x.value(0), 0);
        due("state(0)", x.state(0), 1);
        rowsAre(x, 1);
        turns(x, 0);
        due("value(0)", x.value(0), 5);
    }

    @Edge(promise = 9, says = "if that is NEW, it BEGINS")
    static void anActionThatBeginsATypeIsNotDoneYet() {
        for (int kind = 0; kind <= 2; kind++) {
            TypeStarts x = classes(1, 1);
            x.action(10, kind, 0, kind == 1 ? 5 : 0, false);
            turns(x, 0);
            due("state(0)", x.state(0), 1);
            turns(x, 0, 0);
            due("value(0)", x.value(0), 0);
            rowsAre(x, 2);
            turns(x, 0);
            due("value(0)", x.value(0), kind == 1 ? 5 : 0);
            due("end(0)", x.end(0), 0);
            turns(x, 0);
            due("end(0)", x.end(0), 2);
        }
    }

    @Edge(promise = 9, says = "BEGINS: it is UNDER WAY in this THREAD, and its START on top, ahead of its LIST (no more in this STEP).")
    static void oneStepBeginsOneTypeAlone() {
        TypeStarts x = chain(1);
        for (int t = 5; t >= 0; t--) {
            turns(x, 0);
            due("state(" + t + ")", x.state(t), 1);
            due("in(" + t + ")", x.in(t), 0);
            due("start(0, " + (5 - t) + ")", x.start(0, 5 - t), t);
            due("start(0, " + (6 - t) + ")", x.start(0, 6 - t), NONE);
            rowsAre(x, 6 - t);
        }
    }

    @Edge(promise = 9, says = "- a BODY ahead of an ACTION that ASKS FOR a TYPE (0, 1: that whose FIELD it is; 2: a)")
    static void aReadOrWriteBeginsTheFieldsOwnTypeAlone() {
        for (int kind = 0; kind <= 2; kind++) {
            TypeStarts x = sorts(0);
            x.type(0, 0);
            x.field(0);
            x.thread();
            x.action(10, kind, 1, 0, false);
            turns(x, 0);
            due("state(0)", x.state(0), kind == 2 ? 0 : 1);
            due("state(1)", x.state(1), kind == 2 ? 1 : 0);
        }
    }

    @Edge(promise = 9, says = "its parent, the interfaces that need it and its own text are worked once, by one thread, others waiting")
    static void whatIsDoneBeginsNoSecondTime() {
        TypeStarts x = classes(1, 2);
        x.action(0, 1, 0, 5, false);
        x.action(10, 2, 0, 0, false);
        x.action(10, 1, 0, 6, false);
        x.action(10, 2, 0, 0, false);
        x.action(11, 2, 0, 0, false);
        x.action(11, 0, 0, 0, false);
        manyTurns(x, 0, 5 + 1 + 1);
        manyTurns(x, 1, 3);
        row(x, 0, 0, 0, 0);
        row(x, 1, 0, 1, 0);
        row(x, 2, 1, 3, 6);
        row(x, 3, 1, 5, 0);
        due("state(0)", x.state(0), 2);
    }

    @Edge(promise = 9, says = "what fails stays failed")
    static void whatFailedBeginsNoSecondTime() {
        TypeStarts x = classes(1, 2);
        x.action(0, 4, 1, 0, false);
        for (int i = 0; i < 5; i++) x.action(10, 2, 0, 0, true);
        x.action(11, 2, 0, 0, true);
        manyTurns(x, 0, 3);
        row(x, 2, 0, 4, 3);
        for (int i = 0; i < 4; i++) {
            turns(x, 0);
            row(x, 3 + i, 0, 4, 4);
        }
        turns(x, 1);
        row(x, 7, 1, 4, 4);
        due("state(0)", x.state(0), 3);
    }

    @Edge(promise = 9, says = "if it is FAILED, 4 is thrown by the ACTION")
    static void readWriteAndUseOfWhatFailed() {
        for (int kind = 0; kind <= 2; kind++) {
            TypeStarts x = classes(1, 1);
            x.action(0, 4, 2, 0, false);
            x.action(10, 2, 0, 0, true);
            x.action(10, kind, 0, kind == 1 ? 5 : 0, true);
            x.action(10, kind, 0, kind == 1 ? 5 : 0, false);
            turns(x, 0, 0, 0, 0);
            row(x, 3, 0, 4, 4);
            due("value(0)", x.value(0), 0);
            turns(x, 0);
            row(x, 4, 0, 5, 4);
            rowsAre(x, 5);
        }
    }

    @Edge(promise = 9, says = "if it is DONE, or UNDER WAY in this THREAD, the ACTION is done, and the BODY is behind it")
    static void aStartThatAsksForItself() {
        TypeStarts x = classes(1, 1);
        x.action(0, 2, 0, 0, false);
        x.action(0, 1, 0, 5, false);
        x.action(0, 0, 0, 0, false);
        x.action(10, 0, 0, 0, false);
        turns(x, 0, 0, 0, 0);
        due("value(0)", x.value(0), 5);
        turns(x, 0);
        row(x, 1, 0, 3, 5);
        turns(x, 0, 0);
        row(x, 2, 0, 1, 0);
        row(x, 3, 0, 3, 5);
    }

    @Edge(promise = 9, says = "UNDER WAY in this THREAD, the ACTION is done")
    static void aRingOfOneThreadSeesZeros() {
        TypeStarts x = classes(2, 1);
        x.action(0, 0, 1, 0, false);
        x.action(0, 1, 0, 4, false);
        x.action(1, 0, 0, 0, false);
        x.action(1, 1, 1, 5, false);
        x.action(10, 2, 0, 0, false);
        due("go(0)", x.go(0), 12);
        row(x, 2, 0, 3, 0);
        row(x, 3, 0, 1, 1);
        row(x, 4, 0, 3, 5);
        due("end(0)", x.end(0), 2);
    }

    @Edge(promise = 9, says = "0, 1 without a FIELD")
    static void readAndWriteWithoutAField() {
        TypeStarts x = sorts(0);
        x.thread();
        x.action(10, 0, 0, 0, true);
        x.action(10, 1, 0, 5, true);
        x.action(10, 1, 0, 5, false);
        turns(x, 0, 0, 0);
        row(x, 0, 0, 4, 5);
        row(x, 1, 0, 4, 5);
        row(x, 2, 0, 5, 5);
        due("state(0)", x.state(0), 0);
    }

    @Edge(promise = 9, says = "0, 1 without a FIELD")
    static void aFieldThatComesLaterIsThere() {
        TypeStarts x = sorts(0);
        x.thread();
        x.action(10, 1, 0, 4, false);
        turns(x, 0);
        due("end(0)", x.end(0), 7);
        x.field(0);
        due("go(0)", x.go(0), 5);
        due("end(0)", x.end(0), 2);
        due("value(0)", x.value(0), 4);
    }

    @Edge(promise = 9, says = "and 1 of an INTERFACE's FIELD but in that INTERFACE's own BODY: 5 is thrown by the ACTION")
    static void writeOfAnInterfacesFieldFromOutside() {
        for (int sort = 1; sort <= 2; sort++) {
            TypeStarts x = sorts(sort, sort, 0);
            x.field(0);
            x.face(1, 0);
            x.face(2, 0);
            x.thread();
            for (int t = 0; t < 3; t++) {
                x.action(t, 1, t, 5 + t, true);
                x.action(10, 2, t, 0, false);
            }
            x.action(10, 1, 0, 9, true);
            x.action(10, 0, 2, 0, false);
            // 0 writes it; 1, 2 and the THREAD may not, be it through themselves; all may READ it.
            x.go(0);
            due("value(0)", x.value(0), 5);
            int caught = 0;
            for (int i = 0; i < 9; i++) if (x.log(i, 1) == 4 && x.log(i, 2) == 5) caught++;
            due("5 was CAUGHT so often", caught, 3);
            row(x, 9, 0, 3, 5);
        }
    }

    @Edge(promise = 9, says = "in that INTERFACE's own BODY")
    static void writeOfAnInterfacesOwnFieldThroughAnother() {
        TypeStarts x = sorts(1, 0);
        x.field(0);
        x.face(1, 0);
        x.action(0, 1, 1, 6, false);
        x.thread();
        x.action(10, 2, 0, 0, false);
        x.go(0);
        due("value(0), named by way of 1", x.value(0), 6);
        due("state(1)", x.state(1), 0);
        due("end(0)", x.end(0), 2);
    }

    @Edge(promise = 9, says = "(nothing is asked for)")
    static void whatMayNotBeWrittenIsNotWaitedFor() {
        TypeStarts x = sorts(1, 1);
        x.field(0);
        x.thread();
        x.thread();
        x.action(10, 2, 0, 0, false);
        x.action(11, 1, 0, 5, true);
        x.action(11, 1, 1, 5, true);
        turns(x, 0, 1, 1);
        row(x, 1, 1, 4, 5);
        row(x, 2, 1, 4, 5);
        due("state(1)", x.state(1), 0);
        due("end(1)", x.end(1), 0);
    }

    @Edge(promise = 9, says = "3 PASS (what names TYPE a without use)")
    static void aPassOfWhatIsNewElsewhereOrFailed() {
        TypeStarts x = classes(2, 2);
        x.action(0, 4, 1, 0, false);
        x.action(10, 2, 0, 0, true);
        x.action(11, 3, 1, 0, false);
        x.action(11, 3, 0, 0, false);
        x.action(11, 3, 0, 0, false);
        turns(x, 1);
        due("state(1), it was NEW", x.state(1), 0);
        turns(x, 0, 1);
        due("end(1), 0 is UNDER WAY elsewhere", x.end(1), 0);
        turns(x, 0, 0, 1, 1);
        due("end(1), 0 FAILED", x.end(1), 2);
    }

    @Edge(promise = 9, says = "5 LEAVE: the BODY is over, if LATEST is v.")
    static void leaveAtTheLeastAndTheMostNumber() {
        int[] numbers = {-9, 9, 0};
        for (int v : numbers) {
            int near = v == 9 ? 8 : v + 1;
            TypeStarts x = classes(1, 1);
            x.action(0, 1, 0, v, false);
            x.action(10, 0, 0, 0, false);
            x.action(10, 5, 0, near, false);
            x.action(10, 5, 0, v, false);
            x.action(10, 4, 2, 0, false);
            // 4 for the TYPE, the READ, two LEAVES, the end.
            due("go(0)", x.go(0), 8);
            due("end(0)", x.end(0), 2);
        }
    }

    @Edge(promise = 9, says = "(at first 0)")
    static void latestIs0AtFirstInEachBody() {
        TypeStarts x = classes(2, 2);
        x.action(0, 1, 0, 5, false);
        x.action(1, 5, 0, 5, false);
        x.action(1, 5, 0, 0, false);
        x.action(1, 4, 2, 0, false);
        x.action(10, 0, 0, 0, false);
        x.action(10, 2, 1, 0, false);
        x.action(10, 5, 0, 5, false);
        x.action(10, 4, 2, 0, false);
        x.action(11, 5, 0, 0, false);
        x.action(11, 4, 2, 0, false);
        // In THREAD 0 LATEST is 5; in the START that stands on it, at first 0.
        manyTurns(x, 0, 5 + 2 + 2 + 1);
        due("state(1)", x.state(1), 2);
        turns(x, 0, 0, 0);
        due("end(0)", x.end(0), 2);
        turns(x, 1, 1);
        due("end(1)", x.end(1), 2);
    }

    @Edge(promise = 9, says = "a BODY with no ACTION left")
    static void bodiesWithoutActions() {
        TypeStarts x = sorts(0);
        x.thread();
        x.thread();
        x.action(10, 2, 0, 0, false);
        turns(x, 1);
        due("end(1)", x.end(1), 2);
        row(x, 0, 1, 5, 0);
        turns(x, 0, 0);
        due("state(0), behind its LIST", x.state(0), 1);
        turns(x, 0);
        due("state(0)", x.state(0), 2);
        row(x, 2, 0, 1, 0);
    }

    @Edge(promise = 9, says = "or that was left: the TYPE is DONE; a THREAD's BODY: the THREAD has ended, well.")
    static void aBodyThatWasLeftIsOverInTheNextStep() {
        for (int place = 0; place < 5; place++) {
            TypeStarts x = classes(1, 1);
            for (int i = 0; i < 5; i++) {
                x.action(0, i == place ? 5 : 3, 0, 0, false);
                x.action(10, i == place ? 5 : 2, 0, 0, false);
            }
            int before = place == 0 ? 0 : 3 + place + 1 + place;
            manyTurns(x, 0, before);
            turns(x, 0);
            due("end(0), left at " + place, x.end(0), 0);
            turns(x, 0);
            due("end(0), left at " + place, x.end(0), 2);
            due("state(0)", x.state(0), place == 0 ? 0 : 2);
        }
    }

    @Edge(promise = 9, says = "THROWN by an ACTION: if it is GUARDED, that is CAUGHT, and the BODY is behind the ACTION")
    static void aGuardAtTheLastAction() {
        TypeStarts x = classes(1, 1);
        for (int i = 0; i < 4; i++) x.action(0, 3, 0, 0, false);
        x.action(0, 4, 1, 0, true);
        x.action(10, 2, 0, 0, false);
        manyTurns(x, 0, 7);
        row(x, 1, 0, 4, 1);
        due("state(0)", x.state(0), 1);
        turns(x, 0);
        due("state(0)", x.state(0), 2);
    }

    /** THREAD 0's last ACTION throws a number from 1 to 5. */
    private static TypeStarts throwing(int number, boolean guarded) {
        TypeStarts x = sorts(0);
        x.thread();
        x.action(0, 4, 1, 0, false);
        x.action(10, 4, 2, 0, true);
        if (number == 4) x.action(10, 2, 0, 0, true);
        if (number <= 2) x.action(10, 4, number, 0, guarded);
        else if (number <= 4) x.action(10, 2, 0, 0, guarded);
        else x.action(10, 0, 0, 0, guarded);
        if (!guarded) x.action(10, 4, 2, 0, true);
        return x;
    }

    @Edge(promise = 9, says = "WHAT IS THROWN: 1 an exception; 2 an error; 3 a start's error; 4 not found; 5 no field.")
    static void eachNumberFrom1To5IsCaught() {
        for (int number = 1; number <= 5; number++) {
            TypeStarts x = throwing(number, true);
            x.go(0);
            due("end(0)", x.end(0), 2);
            int rows = 0;
            while (rows < 20 && x.log(rows, 0) == 0) rows++;
            row(x, rows - 2, 0, 4, number);
        }
    }

    @Edge(promise = 9, says = "Else by the BODY: of a THREAD, it has ended with that")
    static void eachNumberFrom1To5EndsAThread() {
        for (int number = 1; number <= 5; number++) {
            TypeStarts x = throwing(number, false);
            x.go(0);
            due("end(0), GUARDED just before and behind", x.end(0), 2 + number);
            due("turn(0)", x.turn(0), STATE);
        }
    }

    @Edge(promise = 9, says = "of a START, 1 becomes 3, and it is thrown by the START")
    static void oneAloneBecomesThreeAndOnce() {
        int[] thrown = {1, 2, 4, 5};
        int[] caught = {3, 2, 4, 5};
        for (int i = 0; i < 4; i++) {
            TypeStarts x = sorts(0, 0, 0, 0);
            x.thread();
            x.action(3, 4, 2, 0, false);
            if (thrown[i] <= 2) x.action(0, 4, thrown[i], 0, false);
            if (thrown[i] == 4) x.action(0, 2, 3, 0, true);
            if (thrown[i] == 4) x.action(0, 2, 3, 0, false);
            if (thrown[i] == 5) x.action(0, 0, 1, 0, false);
            x.action(1, 2, 0, 0, false);
            x.action(2, 2, 1, 0, false);
            x.action(10, 2, 2, 0, true);
            x.go(0);
            int rows = thrown[i] == 4 ? 3 + 3 : 3;
            for (int t = 0; t < 3; t++) row(x, rows + t, 0, 2, t);
            row(x, rows + 3, 0, 4, caught[i]);
        }
    }

    @Edge(promise = 9, says = "THROWN by a START: its TYPE is FAILED, it stands there no more")
    static void whatFailedDoesNotStandInItsThread() {
        TypeStarts x = classes(2, 1);
        x.action(0, 4, 1, 0, false);
        x.action(1, 2, 0, 0, true);
        x.action(10, 2, 1, 0, false);
        manyTurns(x, 0, 4);
        due("start(0, 1)", x.start(0, 1), 0);
        turns(x, 0);
        due("start(0, 1)", x.start(0, 1), NONE);
        due("start(0, 0)", x.start(0, 0), 1);
        due("state(0)", x.state(0), 3);
        due("in(0)", x.in(0), NONE);
        due("state(1)", x.state(1), 1);
    }

    @Edge(promise = 9, says = "or, of a START in its LIST, by that START (the number stays)")
    static void noGuardOfABodyHelpsItsList() {
        TypeStarts x = sorts(0);
        x.type(0, 0);
        x.thread();
        x.action(0, 4, 2, 0, false);
        for (int i = 0; i < 5; i++) x.action(1, 4, 1, 0, true);
        x.action(10, 2, 1, 0, true);
        manyTurns(x, 0, 4);
        row(x, 2, 0, 2, 0);
        row(x, 3, 0, 2, 1);
        row(x, 4, 0, 4, 2);
        due("state(1)", x.state(1), 3);
    }

    @Edge(promise = 9, says = "All that is in the same STEP.")
    static void sixStartsFailInOneStep() {
        TypeStarts x = chain(1);
        x.action(0, 4, 1, 0, false);
        manyTurns(x, 0, 7);
        for (int t = 0; t < 6; t++) due("state(" + t + ")", x.state(t), 1);
        turns(x, 0);
        for (int t = 0; t < 6; t++) row(x, 6 + t, 0, 2, t);
        row(x, 12, 0, 5, 3);
        due("end(0)", x.end(0), 5);
        due("start(0, 0)", x.start(0, 0), NONE);
    }

    // ---- promise 10: go

    /** Each STEP that is left makes one row: 5 of THREAD 0, 6 of 1 and of 2; rows 0 and 1 are there. */
    private static TypeStarts readers() {
        TypeStarts x = classes(1, 3);
        x.action(10, 2, 0, 0, false);
        for (int h = 0; h < 3; h++) {
            for (int i = h == 0 ? 1 : 0; i < 5; i++) x.action(10 + h, 0, 0, 0, false);
        }
        manyTurns(x, 0, 4);
        return x;
    }

    /** The THREADS of the STEPS that a seed tells; they were worked out with numbers of any length. */
    private static void goesBy(int seed, String threads) {
        TypeStarts x = readers();
        due("go(" + seed + ")", x.go(seed), threads.length());
        for (int i = 0; i < threads.length(); i++) {
            due("the THREAD of STEP " + i + " by " + seed, x.log(2 + i, 0), threads.charAt(i) - '0');
        }
    }

    @Edge(promise = 10, says = "each time z (the seed at first) becomes z * 1664525 + 1013904223 (wrapping)")
    static void theLeastAndTheMostSeedWrapAround() {
        goesBy(MOST, "01101211120222200");
        goesBy(LEAST, "12020212000221111");
        goesBy(0, "20211121222110000");
    }

    @Edge(promise = 10, says = "(z >>> 8) % n")
    static void aNumberBelow0IsShiftedAsOneAbove() {
        goesBy(-1, "12220100010222111");
        goesBy(1, "00221112220210101");
        goesBy(-77, "21101200122110202");
    }

    @Edge(promise = 10, says = "and of the n THREADS that have a STEP the one at place (z >>> 8) % n of them makes it")
    static void aThreadThatHasEndedOrWaitsHasNoPlace() {
        TypeStarts x = readers();
        manyTurns(x, 0, 5);
        manyTurns(x, 1, 6);
        due("go(-1), THREAD 2 alone", x.go(-1), 6);
        for (int i = 0; i < 6; i++) due("log(" + (13 + i) + ", 0)", x.log(13 + i, 0), 2);
        x = ring();
        x.thread();
        for (int i = 0; i < 5; i++) x.action(12, 3, 0, 0, false);
        turns(x, 0, 0, 1, 1);
        due("go(3), THREAD 2 alone", x.go(3), 6);
        due("end(2)", x.end(2), 2);
        due("end(0)", x.end(0), 1);
        due("end(1)", x.end(1), 1);
    }

    @Edge(promise = 10, says = "it has no STEP then")
    static void whileOthersWaitOneAloneGoesOn() {
        TypeStarts x = classes(1, 3);
        for (int i = 0; i < 5; i++) x.action(0, 3, 0, 0, false);
        for (int h = 0; h < 3; h++) x.action(10 + h, 2, 0, 0, false);
        turns(x, 1);
        due("end(0)", x.end(0), 1);
        due("end(2)", x.end(2), 1);
        // What is left of 0, and the ACTION and the end of each.
        due("go(7)", x.go(7), 7 + 3 * 2);
        row(x, 1, 1, 1, 0);
        rowsAre(x, 5);
    }

    @Edge(promise = 10, says = "STEPS till no THREAD has one")
    static void goWhereNoThreadHasAStep() {
        TypeStarts x = new TypeStarts();
        due("go(0) without THREADS", x.go(0), 0);
        x = classes(0, 3);
        turns(x, 0, 1, 2);
        due("go(0), all have ended", x.go(0), 0);
        x = ring();
        turns(x, 0, 0, 1, 1);
        due("go(0), all WAIT", x.go(0), 0);
        due("steps()", x.steps(), 4);
        rowsAre(x, 2);
    }

    @Edge(promise = 10, says = "makes it: how many.")
    static void goCountsItsOwnStepsUpTo66() {
        TypeStarts x = longest();
        due("go(5)", x.go(5), 66);
        for (int h = 0; h < 3; h++) due("end(" + h + ")", x.end(h), 2);
        x.begin();
        turns(x, 0, 2);
        due("go(5), two were made before", x.go(5), 64);
        due("go(5), once more", x.go(5), 0);
    }

    // ---- promise 11: steps

    @Edge(promise = 11, says = "STEPS that the RUN had.")
    static void stepsFrom0To66() {
        TypeStarts x = longest();
        due("steps()", x.steps(), 0);
        turns(x, 2);
        due("steps()", x.steps(), 1);
        due("go(9)", x.go(9), 65);
        due("steps()", x.steps(), 66);
        due("turn(0)", x.turn(0), STATE);
        due("turn(3)", x.turn(3), NONE);
        due("steps()", x.steps(), 66);
        x.begin();
        due("steps()", x.steps(), 0);
    }

    // ---- promise 12: state

    @Edge(promise = 12, says = "A TYPE: 0 NEW, 1 UNDER WAY, 2 DONE, 3 FAILED.")
    static void stateIs1FromItsBeginningToItsEnd() {
        TypeStarts x = sorts(0, 0);
        x.thread();
        x.action(1, 4, 2, 0, false);
        x.action(10, 2, 0, 0, false);
        x.action(10, 2, 1, 0, true);
        int[] zero = {0, 1, 1, 2, 2, 2, 2, 2};
        int[] one = {0, 0, 0, 0, 0, 1, 1, 3};
        for (int step = 0; step < zero.length; step++) {
            due("state(0) behind STEP " + step, x.state(0), zero[step]);
            due("state(1) behind STEP " + step, x.state(1), one[step]);
            turns(x, 0);
        }
    }

    @Edge(promise = 12, says = "NONE.")
    static void stateOfNoType() {
        for (int count = 0; count <= 6; count++) {
            TypeStarts x = classes(count, 3);
            for (int t : outside(count)) due("state(" + t + ")", x.state(t), NONE);
        }
    }

    // ---- promise 13: in

    @Edge(promise = 13, says = "The THREAD in which a TYPE is UNDER WAY.")
    static void inTheFirstAndTheLastThread() {
        TypeStarts x = classes(2, 3);
        x.action(10, 2, 0, 0, false);
        x.action(12, 2, 1, 0, false);
        turns(x, 0, 2);
        due("in(0)", x.in(0), 0);
        due("in(1)", x.in(1), 2);
    }

    @Edge(promise = 13, says = "NONE (not UNDER WAY, too).")
    static void inOfWhatIsNewDoneFailedOrNoType() {
        TypeStarts x = classes(3, 1);
        x.action(1, 4, 1, 0, false);
        x.action(10, 2, 0, 0, false);
        x.action(10, 2, 1, 0, true);
        for (int t = 0; t < 3; t++) due("in(" + t + "), NEW", x.in(t), NONE);
        x.go(0);
        due("in(0), DONE", x.in(0), NONE);
        due("in(1), FAILED", x.in(1), NONE);
        due("in(2), NEW", x.in(2), NONE);
        for (int t : outside(3)) due("in(" + t + ")", x.in(t), NONE);
    }

    // ---- promise 14: value

    @Edge(promise = 14, says = "The number of a TYPE's own FIELD")
    static void valueFromTheLeastToTheMost() {
        TypeStarts x = classes(6, 1);
        for (int t = 0; t < 5; t++) x.action(10, 1, t == 4 ? 5 : t, t == 4 ? 9 : -9, false);
        x.go(0);
        for (int t = 0; t < 4; t++) due("value(" + t + ")", x.value(t), -9);
        due("value(4)", x.value(4), 0);
        due("value(5)", x.value(5), 9);
    }

    @Edge(promise = 14, says = "-1000: there is none such.")
    static void valueOfNoTypeOrWithoutAFieldOfItsOwn() {
        TypeStarts x = sorts(0, 1);
        x.type(0, 0);
        x.type(0, -1);
        x.field(0);
        x.field(1);
        x.face(3, 1);
        due("value(2), its PARENT's alone", x.value(2), NO_NUMBER);
        due("value(3), its FACE's alone", x.value(3), NO_NUMBER);
        for (int t : outside(4)) due("value(" + t + ")", x.value(t), NO_NUMBER);
        due("value(0)", x.value(0), 0);
        due("value(1)", x.value(1), 0);
    }

    // ---- promise 15: end

    @Edge(promise = 15, says = "A THREAD: 0 it has a STEP, 1 it WAITS, 2 it ended well, 2 and what was thrown.")
    static void endFrom0To7() {
        TypeStarts x = ring();
        due("end(0)", x.end(0), 0);
        turns(x, 0, 0, 1);
        due("end(0)", x.end(0), 1);
        due("end(1)", x.end(1), 0);
        for (int number = 1; number <= 5; number++) {
            x = throwing(number, false);
            x.go(0);
            due("end(0)", x.end(0), 2 + number);
        }
        x = throwing(5, true);
        x.go(0);
        due("end(0)", x.end(0), 2);
    }

    @Edge(promise = 15, says = "NONE.")
    static void endOfNoThread() {
        for (int count = 0; count <= 3; count++) {
            TypeStarts x = classes(6, count);
            for (int h : outside(count)) due("end(" + h + ")", x.end(h), NONE);
        }
    }

    // ---- promise 16: waits

    @Edge(promise = 16, says = "The TYPE for which a THREAD WAITS.")
    static void waitsForTheFirstAndTheLastType() {
        for (int t = 0; t <= 5; t += 5) {
            TypeStarts x = classes(6, 3);
            x.action(12, 2, t, 0, false);
            x.action(10, 0, t, 0, false);
            x.action(11, 1, t, 1, false);
            turns(x, 2);
            due("waits(0)", x.waits(0), t);
            due("waits(1)", x.waits(1), t);
        }
    }

    @Edge(promise = 16, says = "NONE (it does not, too).")
    static void waitsOfNoThreadOrOfOneThatDoesNot() {
        TypeStarts x = classes(1, 2);
        x.action(10, 2, 0, 0, false);
        x.action(11, 2, 0, 0, false);
        for (int h : outside(2)) due("waits(" + h + ")", x.waits(h), NONE);
        due("waits(0), it has a STEP", x.waits(0), NONE);
        turns(x, 0);
        due("waits(0), it is its own", x.waits(0), NONE);
        due("waits(1)", x.waits(1), 0);
        turns(x, 0, 0);
        due("waits(1), 0 is DONE", x.waits(1), NONE);
        turns(x, 1, 1);
        due("waits(1), it has ended", x.waits(1), NONE);
    }

    @Edge(promise = 16, says = "A THREAD WAITS, if its STEP would come to a TYPE that is UNDER WAY in another THREAD")
    static void whatFailsElsewhereIsWaitedForNoMore() {
        TypeStarts x = classes(1, 2);
        x.action(0, 4, 1, 0, false);
        x.action(10, 2, 0, 0, false);
        x.action(11, 2, 0, 0, false);
        turns(x, 0, 0);
        due("turn(1)", x.turn(1), 0);
        turns(x, 0);
        due("waits(1)", x.waits(1), NONE);
        turns(x, 1);
        due("end(0)", x.end(0), 5);
        due("end(1)", x.end(1), 6);
    }

    @Edge(promise = 16, says = "(of its LIST the next one that is not passed over; what its ACTION ASKS FOR)")
    static void ofAListTheNextOneAlone() {
        TypeStarts x = longestList();
        x.thread();
        x.action(10, 2, 5, 0, false);
        x.action(11, 2, 0, 0, false);
        x.action(11, 2, 4, 0, false);
        turns(x, 0, 1);
        due("waits(0), the first one is elsewhere", x.waits(0), 0);
        manyTurns(x, 1, 4);
        due("state(4)", x.state(4), 1);
        due("waits(0), 0 is passed over, 1 is NEW", x.waits(0), NONE);
        manyTurns(x, 0, 3 * 3);
        due("state(3)", x.state(3), 2);
        due("waits(0), the last one is elsewhere", x.waits(0), 4);
        due("turn(0)", x.turn(0), 0);
        turns(x, 1, 1);
        due("waits(0), all are DONE", x.waits(0), NONE);
        turns(x, 0, 0);
        due("state(5)", x.state(5), 2);
    }

    // ---- promise 17: start

    @Edge(promise = 17, says = "The i-th TYPE, the lowest one first, whose START stands in a THREAD.")
    static void sixStartsOneOnTopOfAnother() {
        TypeStarts x = chain(1);
        manyTurns(x, 0, 6);
        for (int i = 0; i < 6; i++) due("start(0, " + i + ")", x.start(0, i), 5 - i);
    }

    @Edge(promise = 17, says = "NONE.")
    static void startOfNoThreadOrNoPlace() {
        TypeStarts x = chain(2);
        for (int i : outside(0)) due("start(0, " + i + ")", x.start(0, i), NONE);
        manyTurns(x, 0, 6);
        for (int i : outside(6)) due("start(0, " + i + ")", x.start(0, i), NONE);
        for (int i : outside(0)) due("start(1, " + i + ")", x.start(1, i), NONE);
        for (int h : outside(2)) due("start(" + h + ", 0)", x.start(h, 0), NONE);
        turns(x, 0, 0);
        for (int i : outside(5)) due("start(0, " + i + "), one is DONE", x.start(0, i), NONE);
        x.go(0);
        due("start(0, 0), it has ended", x.start(0, 0), NONE);
    }

    // ---- promise 18: log

    @Edge(promise = 18, says = "Row i of THE LOG: what = 0 the THREAD, 1 the event, 2 the number.")
    static void theFirstAndTheLastOfSixtyRows() {
        TypeStarts x = longest();
        x.go(0);
        due("log(0, 1)", x.log(0, 1), 0);
        int[] events = new int[6];
        for (int i = 0; i < 60; i++) {
            int event = x.log(i, 1);
            if (event >= 0 && event <= 5) events[event]++;
        }
        int[] often = {6, 6, 0, 45, 0, 3};
        for (int event = 0; event <= 5; event++) due("rows of event " + event, events[event], often[event]);
        due("log(59, 1)", x.log(59, 1), 5);
        due("log(59, 2)", x.log(59, 2), 0);
        rowsAre(x, 60);
    }

    @Edge(promise = 18, says = "-1000: none such.")
    static void noSuchRowOrColumn() {
        TypeStarts x = classes(0, 2);
        for (int i : outside(0)) due("log(" + i + ", 0)", x.log(i, 0), NO_NUMBER);
        turns(x, 0, 1);
        for (int what : outside(3)) {
            due("log(0, " + what + ")", x.log(0, what), NO_NUMBER);
            due("log(1, " + what + ")", x.log(1, what), NO_NUMBER);
        }
        for (int i : outside(2)) {
            for (int what = 0; what <= 2; what++) due("log(" + i + ", " + what + ")", x.log(i, what), NO_NUMBER);
        }
        row(x, 0, 0, 5, 0);
        row(x, 1, 1, 5, 0);
        x.begin();
        due("log(0, 0)", x.log(0, 0), NO_NUMBER);
    }

    @Edge(promise = 18, says = "THE LOG has rows: THREAD, event, number: 0 a TYPE BEGINS, 1 it is DONE, 2 it FAILED; 3 what was READ; 4 what was CAUGHT; 5 a THREAD's end: 0, or what was thrown.")
    static void eachEventFrom0To5() {
        TypeStarts x = classes(2, 2);
        x.action(0, 1, 0, -9, false);
        x.action(1, 4, 1, 0, false);
        x.action(10, 0, 0, 0, false);
        x.action(11, 2, 1, 0, true);
        x.action(11, 3, 0, 0, false);
        x.action(11, 5, 0, 1, false);
        x.action(11, 2, 1, 0, false);
        manyTurns(x, 0, 6);
        row(x, 0, 0, 0, 0);
        row(x, 1, 0, 1, 0);
        row(x, 2, 0, 3, -9);
        row(x, 3, 0, 5, 0);
        manyTurns(x, 1, 6);
        row(x, 4, 1, 0, 1);
        row(x, 5, 1, 2, 1);
        row(x, 6, 1, 4, 3);
        row(x, 7, 1, 5, 4);
        rowsAre(x, 8);
    }

    @Edge(promise = 18, says = "Of one STEP as they come.")
    static void theMostRowsOfOneStep() {
        TypeStarts x = chain(1);
        x.action(0, 4, 2, 0, false);
        manyTurns(x, 0, 7);
        rowsAre(x, 6);
        turns(x, 0);
        for (int t = 0; t < 6; t++) row(x, 6 + t, 0, 2, t);
        row(x, 12, 0, 5, 2);
        rowsAre(x, 13);
    }
}
