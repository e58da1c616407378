/** The boundary cases of promises 1 to 7: what there is. */
final class BuildEdges extends Cases {
    private static final int[] NO_SORTS = {-1, 3, 4, LEAST, MOST};

    /** No call takes a number for a TYPE that is none. */
    private static void isNoType(TypeStarts x, int t) {
        due("face(" + t + ", 0)", x.face(t, 0), NONE);
        due("face(0, " + t + ")", x.face(0, t), NONE);
        due("field(" + t + ")", x.field(t), NONE);
        due("action(" + t + ", 4, 1, 0, false)", x.action(t, 4, 1, 0, false), NONE);
        due("state(" + t + ")", x.state(t), NONE);
        due("in(" + t + ")", x.in(t), NONE);
        due("value(" + t + ")", x.value(t), NO_NUMBER);
        due("list(" + t + ", 0)", x.list(t, 0), NONE);
        due("through(" + t + ")", x.through(t), NONE);
        due("needs(" + t + ", 0)", x.needs(t, 0), NONE);
        due("needs(0, " + t + ")", x.needs(0, t), NONE);
    }

    /** No call takes a number for a THREAD that is none. */
    private static void isNoThread(TypeStarts x, int h) {
        due("turn(" + h + ")", x.turn(h), NONE);
        due("end(" + h + ")", x.end(h), NONE);
        due("waits(" + h + ")", x.waits(h), NONE);
        due("start(" + h + ", 0)", x.start(h, 0), NONE);
    }

    // ---- promise 1: a new object

    @Edge(promise = 1, says = "No TYPES")
    static void newObjectHasNoTypes() {
        TypeStarts x = new TypeStarts();
        for (int t : outside(0)) isNoType(x, t);
        due("type(0, 0)", x.type(0, 0), NONE);
        due("clear()", x.clear(), 0);
    }

    @Edge(promise = 1, says = "no THREADS")
    static void newObjectHasNoThreads() {
        TypeStarts x = new TypeStarts();
        for (int h : outside(0)) isNoThread(x, h);
        for (int body = 10; body <= 12; body++) due("action(" + body + ", 4)", x.action(body, 4, 1, 0, false), NONE);
        due("go(0)", x.go(0), 0);
        due("steps()", x.steps(), 0);
        for (int what = 0; what <= 2; what++) due("log(0, " + what + ")", x.log(0, what), NO_NUMBER);
        due("begin()", x.begin(), 0);
    }

    @Edge(promise = 1, says = "An object is used for at most 512 calls after it has been made")
    static void the512thCallAnswersAsTheFirst() {
        TypeStarts x = new TypeStarts();
        for (int call = 1; call < 512; call++) due("type(3, -1), call " + call, x.type(3, -1), BAD);
        due("type(0, -1), call 512", x.type(0, -1), 0);
        x = new TypeStarts();
        for (int call = 1; call < 512; call += 2) {
            due("type(0, -1), call " + call, x.type(0, -1), 0);
            due("clear(), call " + (call + 1), x.clear(), 1);
        }
        x = ring();
        for (int call = 11; call < 512; call += 2) {
            due("begin(), call " + call, x.begin(), 0);
            due("search(), call " + (call + 1), x.search(), 2);
        }
    }

    // ---- promise 2: type

    @Edge(promise = 2, says = "A TYPE more: sort 0 a CLASS, 1 an INTERFACE, 2 one with a DEFAULT")
    static void leastAndMostSort() {
        TypeStarts x = sorts(0, 1, 2, 0);
        due("face(3, 0), a CLASS", x.face(3, 0), STATE);
        due("face(3, 1)", x.face(3, 1), 1);
        listIs(x, 3);
        due("face(3, 2)", x.face(3, 2), 2);
        listIs(x, 3, 2);
        due("type(0, 0)", x.type(0, 0), 4);
    }

    @Edge(promise = 2, says = "its PARENT, or -1.")
    static void withoutAParentAndWithOne() {
        TypeStarts x = new TypeStarts();
        for (int sort = 0; sort <= 2; sort++) due("type(" + sort + ", -1)", x.type(sort, -1), sort);
        listIs(x, 0);
        due("type(0, -2)", x.type(0, -2), NONE);
        due("type(0, 0)", x.type(0, 0), 3);
        listIs(x, 3, 0);
    }

    @Edge(promise = 2, says = "Its number.")
    static void typesAreNumberedFrom0To5() {
        TypeStarts x = new TypeStarts();
        for (int t = 0; t < 6; t++) {
            isNoType(x, t);
            due("type(" + t % 3 + ", -1)", x.type(t % 3, -1), t);
            due("state(" + t + ")", x.state(t), 0);
        }
        for (int t : outside(6)) isNoType(x, t);
    }

    @Edge(promise = 2, says = "TYPES 0 .. 5 (as they come)")
    static void refusedTypesTakeNoNumber() {
        TypeStarts x = new TypeStarts();
        for (int t = 0; t < 6; t++) {
            x.type(3, -1);
            x.type(0, 6);
            due("type(0, -1)", x.type(0, -1), t);
        }
        x.clear();
        due("type(0, -1) behind clear()", x.type(0, -1), 0);
    }

    @Edge(promise = 2, says = "A CLASS may have a PARENT, a CLASS that came before it")
    static void parentJustBeforeAndNotItself() {
        TypeStarts x = new TypeStarts();
        due("type(0, -1)", x.type(0, -1), 0);
        for (int t = 1; t < 6; t++) {
            due("type(0, " + t + "), itself", x.type(0, t), NONE);
            int parent = t == 5 ? 0 : t - 1;
            due("type(0, " + parent + ")", x.type(0, parent), t);
            listIs(x, t, parent);
        }
    }

    @Edge(promise = 2, says = "NONE: the PARENT")
    static void noSuchParent() {
        TypeStarts x = new TypeStarts();
        for (int count = 0; count <= 6; count++) {
            for (int parent : outside(count)) {
                if (parent != -1) due("type(0, " + parent + ")", x.type(0, parent), NONE);
            }
            x.type(0, -1);
        }
    }

    @Edge(promise = 2, says = "BAD: sort")
    static void noSuchSort() {
        TypeStarts x = sorts(0);
        for (int sort : NO_SORTS) {
            due("type(" + sort + ", -1)", x.type(sort, -1), BAD);
            due("type(" + sort + ", 0)", x.type(sort, 0), BAD);
        }
        due("state(1)", x.state(1), NONE);
    }

    @Edge(promise = 2, says = "STATE: a PARENT that is no CLASS")
    static void parentIsAnInterface() {
        TypeStarts x = sorts(1, 2);
        due("type(0, 0)", x.type(0, 0), STATE);
        due("type(0, 1)", x.type(0, 1), STATE);
        due("state(2)", x.state(2), NONE);
    }

    @Edge(promise = 2, says = "or of an INTERFACE")
    static void interfaceWithAParent() {
        TypeStarts x = sorts(0, 1);
        due("type(1, 0)", x.type(1, 0), STATE);
        due("type(2, 0)", x.type(2, 0), STATE);
        due("type(1, 1)", x.type(1, 1), STATE);
        due("type(2, 1)", x.type(2, 1), STATE);
        due("state(2)", x.state(2), NONE);
    }

    @Edge(promise = 2, says = "FULL.")
    static void aSeventhType() {
        TypeStarts x = sorts(0, 0, 0, 0, 0);
        due("type(0, 0), the sixth", x.type(0, 0), 5);
        for (int sort = 0; sort <= 2; sort++) due("type(" + sort + ", -1)", x.type(sort, -1), FULL);
        due("type(0, 0)", x.type(0, 0), FULL);
        due("state(6)", x.state(6), NONE);
        due("clear()", x.clear(), 6);
        due("type(0, -1)", x.type(0, -1), 0);
    }

    @Edge(promise = 2, says = "the first that fits")
    static void typeAnswersTheFirstThatFits() {
        TypeStarts x = sorts(0, 1);
        due("type(3, 2), NONE and BAD", x.type(3, 2), NONE);
        due("type(1, 2), NONE and STATE", x.type(1, 2), NONE);
        due("type(3, 1), BAD and STATE", x.type(3, 1), BAD);
        for (int t = 2; t < 6; t++) x.type(0, -1);
        due("type(3, 6), all but STATE", x.type(3, 6), NONE);
        due("type(0, 6), NONE and FULL", x.type(0, 6), NONE);
        due("type(3, 1), BAD, STATE and FULL", x.type(3, 1), BAD);
        due("type(3, -1), BAD and FULL", x.type(3, -1), BAD);
        due("type(0, 1), STATE and FULL", x.type(0, 1), STATE);
        due("type(1, 0), STATE and FULL", x.type(1, 0), STATE);
    }

    // ---- promise 3: face

    @Edge(promise = 3, says = "A FACE more of a TYPE: how many it has.")
    static void facesAreCountedFrom1To3() {
        TypeStarts x = sorts(1, 1, 1, 0, 0);
        for (int f = 0; f < 3; f++) {
            due("face(3, " + f + ")", x.face(3, f), f + 1);
            due("face(4, " + f + ")", x.face(4, f), f + 1);
        }
        due("face(1, 0)", x.face(1, 0), 1);
    }

    @Edge(promise = 3, says = "each TYPE may have up to 3 FACES, INTERFACES that came before it, in order")
    static void threeFacesOfEachSortInOrder() {
        for (int sort = 0; sort <= 2; sort++) {
            TypeStarts x = sorts(2, 2, 2, sort, 0);
            due("face(3, 2)", x.face(3, 2), 1);
            due("face(3, 0)", x.face(3, 0), 2);
            due("face(3, 1)", x.face(3, 1), 3);
            if (sort == 0) {
                listIs(x, 3, 2, 0, 1);
            } else {
                x.face(4, 3);
                if (sort == 1) listIs(x, 4, 2, 0, 1);
                else listIs(x, 4, 2, 0, 1, 3);
            }
        }
    }

    @Edge(promise = 3, says = "NONE; STATE: it is no INTERFACE")
    static void faceOfNoTypeAndNoFace() {
        TypeStarts x = sorts(1, 0);
        for (int t : outside(2)) {
            due("face(" + t + ", 0)", x.face(t, 0), NONE);
            due("face(1, " + t + ")", x.face(1, t), NONE);
            due("face(" + t + ", " + t + ")", x.face(t, t), NONE);
        }
        due("face(1, 0)", x.face(1, 0), 1);
    }

    @Edge(promise = 3, says = "STATE: it is no INTERFACE")
    static void faceIsAClass() {
        TypeStarts x = sorts(0, 0, 1, 2);
        for (int t = 1; t < 4; t++) due("face(" + t + ", 0)", x.face(t, 0), STATE);
        due("face(3, 1)", x.face(3, 1), STATE);
        due("face(3, 2)", x.face(3, 2), 1);
    }

    @Edge(promise = 3, says = "did not come before it")
    static void faceIsItselfOrCameLater() {
        TypeStarts x = sorts(1, 1, 2, 1, 0);
        due("face(1, 1), itself", x.face(1, 1), STATE);
        due("face(1, 2), the next one", x.face(1, 2), STATE);
        due("face(0, 3), a later one", x.face(0, 3), STATE);
        due("face(0, 0), itself", x.face(0, 0), STATE);
        due("face(3, 2), the one just before", x.face(3, 2), 1);
        due("face(4, 0), the first one", x.face(4, 0), 1);
    }

    @Edge(promise = 3, says = "or is one of its FACES")
    static void faceThatItHas() {
        TypeStarts x = sorts(1, 1, 1, 0);
        x.face(3, 0);
        due("face(3, 0), its only one", x.face(3, 0), STATE);
        x.face(3, 1);
        due("face(3, 0), its first one", x.face(3, 0), STATE);
        due("face(3, 1), its last one", x.face(3, 1), STATE);
        due("face(3, 2)", x.face(3, 2), 3);
    }

    @Edge(promise = 3, says = "one of its FACES")
    static void aFaceOfItsFaceOrOfItsParentIsNotItsOwn() {
        TypeStarts x = sorts(1, 1, 0);
        x.face(1, 0);
        x.face(2, 1);
        due("face(2, 0), a FACE of its FACE", x.face(2, 0), 2);
        x.type(0, 2);
        due("face(3, 1), a FACE of its PARENT", x.face(3, 1), 1);
    }

    @Edge(promise = 3, says = "FULL.")
    static void aFourthFace() {
        for (int sort = 0; sort <= 2; sort++) {
            TypeStarts x = sorts(2, 2, 2, 2, sort, sort);
            for (int f = 0; f < 3; f++) x.face(4, f);
            due("face(4, 3), the fourth", x.face(4, 3), FULL);
            due("face(5, 3), of another TYPE", x.face(5, 3), 1);
            if (sort == 0) listIs(x, 4, 0, 1, 2);
        }
    }

    @Edge(promise = 3, says = "the first that fits")
    static void faceAnswersTheFirstThatFits() {
        TypeStarts x = sorts(1, 1, 1, 0, 0, 1);
        for (int f = 0; f < 3; f++) x.face(4, f);
        due("face(4, 6), NONE and FULL", x.face(4, 6), NONE);
        due("face(4, 3), no INTERFACE and FULL", x.face(4, 3), STATE);
        due("face(4, 5), not before and FULL", x.face(4, 5), STATE);
        due("face(4, 1), its own and FULL", x.face(4, 1), STATE);
        due("face(6, 6), NONE and itself", x.face(6, 6), NONE);
    }

    // ---- promise 4: field

    @Edge(promise = 4, says = "A TYPE gets a FIELD: 1.")
    static void aFieldForEachOfSixTypes() {
        TypeStarts x = sorts(0, 1, 2, 0, 1, 2);
        for (int t = 5; t >= 0; t--) {
            due("value(" + t + ")", x.value(t), NO_NUMBER);
            due("field(" + t + ")", x.field(t), 1);
            due("value(" + t + ")", x.value(t), 0);
        }
    }

    @Edge(promise = 4, says = "NONE; STATE: it has one.")
    static void fieldOfNoType() {
        for (int count = 0; count <= 6; count++) {
            TypeStarts x = classes(count, 3);
            for (int t : outside(count)) due("field(" + t + ")", x.field(t), NONE);
        }
    }

    @Edge(promise = 4, says = "STATE: it has one.")
    static void aSecondField() {
        TypeStarts x = sorts(0, 1, 2);
        for (int t = 0; t < 3; t++) x.field(t);
        for (int t = 0; t < 3; t++) due("field(" + t + ")", x.field(t), STATE);
        x.clear();
        x.type(0, -1);
        due("field(0) behind clear()", x.field(0), 1);
    }

    @Edge(promise = 4, says = "it has one")
    static void aFieldOfItsParentOrFaceIsNotItsOwn() {
        TypeStarts x = sorts(0, 1);
        x.field(0);
        x.field(1);
        x.type(0, 0);
        due("field(2), its PARENT has one", x.field(2), 1);
        x.type(0, -1);
        x.face(3, 1);
        due("field(3), its FACE has one", x.field(3), 1);
    }

    @Edge(promise = 4, says = "and a FIELD, a number, 0 at first.")
    static void aFieldIs0AtFirst() {
        TypeStarts x = sorts(0);
        x.field(0);
        x.thread();
        x.action(10, 0, 0, 0, false);
        due("value(0)", x.value(0), 0);
        manyTurns(x, 0, 4);
        row(x, 2, 0, 3, 0);
    }

    // ---- promise 5: thread

    @Edge(promise = 5, says = "A THREAD more: its number.")
    static void threadsAreNumberedFrom0To2() {
        TypeStarts x = new TypeStarts();
        for (int h = 0; h < 3; h++) {
            isNoThread(x, h);
            due("thread()", x.thread(), h);
            due("end(" + h + ")", x.end(h), 0);
        }
        for (int h : outside(3)) isNoThread(x, h);
    }

    @Edge(promise = 5, says = "FULL.")
    static void aFourthThread() {
        TypeStarts x = classes(0, 3);
        due("thread(), the fourth", x.thread(), FULL);
        due("thread(), once more", x.thread(), FULL);
        due("end(2)", x.end(2), 0);
        due("end(3)", x.end(3), NONE);
        due("action(13, 4)", x.action(13, 4, 1, 0, false), NONE);
        x.clear();
        due("thread() behind clear()", x.thread(), 0);
    }

    // ---- promise 6: clear

    @Edge(promise = 6, says = "how many TYPES there were.")
    static void clearCountsFrom0To6() {
        for (int types = 0; types <= 6; types++) {
            TypeStarts x = classes(types, 3);
            due("clear()", x.clear(), types);
            due("clear(), once more", x.clear(), 0);
        }
    }

    @Edge(promise = 6, says = "No TYPES")
    static void noTypesBehindClear() {
        TypeStarts x = classes(6, 3);
        x.clear();
        for (int t = -1; t <= 6; t++) isNoType(x, t);
        due("type(0, 0)", x.type(0, 0), NONE);
    }

    @Edge(promise = 6, says = "no THREADS")
    static void noThreadsBehindClear() {
        TypeStarts x = classes(6, 3);
        x.clear();
        for (int h = -1; h <= 3; h++) isNoThread(x, h);
        for (int body = 10; body <= 12; body++) due("action(" + body + ", 4)", x.action(body, 4, 1, 0, false), NONE);
        due("go(0)", x.go(0), 0);
    }

    @Edge(promise = 6, says = "No TYPES, no THREADS")
    static void nothingOfWhatWasComesBack() {
        TypeStarts x = sorts(2, 0);
        x.type(0, 1);
        x.face(2, 0);
        x.field(2);
        x.thread();
        for (int i = 0; i < 5; i++) {
            x.action(2, 4, 1, 0, true);
            x.action(10, 4, 1, 0, true);
        }
        x.clear();
        for (int t = 0; t < 3; t++) x.type(t == 0 ? 2 : 0, -1);
        x.thread();
        listIs(x, 2);
        due("face(2, 0)", x.face(2, 0), 1);
        due("value(2)", x.value(2), NO_NUMBER);
        due("action(2, 4)", x.action(2, 4, 1, 0, false), 1);
        due("action(10, 2)", x.action(10, 4, 1, 0, false), 1);
        turns(x, 0);
        due("end(0), GUARDED no more", x.end(0), 3);
    }

    // ---- promise 7: action

    @Edge(promise = 7, says = "(0 .. 5 a TYPE's START, 10 .. 12 THREADS 0 .. 2)")
    static void leastAndMostBody() {
        TypeStarts x = classes(6, 3);
        for (int body = 0; body <= 5; body++) due("action(" + body + ", 4)", x.action(body, 4, 1, 0, false), 1);
        for (int body = 6; body <= 9; body++) due("action(" + body + ", 4)", x.action(body, 4, 1, 0, false), NONE);
        for (int body = 10; body <= 12; body++) due("action(" + body + ", 4)", x.action(body, 4, 1, 0, false), 1);
        for (int body : outside(13)) due("action(" + body + ", 4)", x.action(body, 4, 1, 0, false), NONE);
    }

    @Edge(promise = 7, says = "An ACTION comes behind those of a BODY")
    static void theFirstAndTheFifthInTheirOrder() {
        TypeStarts x = classes(1, 1);
        for (int i = 0; i < 4; i++) x.action(10, 1, 0, i + 1, false);
        x.action(10, 0, 0, 0, false);
        manyTurns(x, 0, 3);
        for (int i = 0; i < 4; i++) {
            turns(x, 0);
            due("value(0)", x.value(0), i + 1);
        }
        turns(x, 0);
        row(x, 2, 0, 3, 4);
        due("end(0)", x.end(0), 0);
        turns(x, 0);
        due("end(0)", x.end(0), 2);
    }

    @Edge(promise = 7, says = "how many it has")
    static void actionsAreCountedFrom1To5InEachBody() {
        TypeStarts x = classes(6, 3);
        for (int n = 1; n <= 5; n++) {
            for (int t = 0; t < 6; t++) due("action(" + t + ", 3)", x.action(t, 3, t, 0, false), n);
            for (int h = 0; h < 3; h++) due("action(1" + h + ", 5)", x.action(10 + h, 5, 0, 0, true), n);
        }
    }

    @Edge(promise = 7, says = "each up to 5 ACTIONS, GUARDED or not")
    static void eachOfFiveActionsHasItsOwnGuard() {
        for (int bare = 0; bare <= 5; bare++) {
            TypeStarts x = classes(0, 1);
            for (int i = 0; i < 5; i++) x.action(10, 4, 2, 0, i != bare);
            due("go(0)", x.go(0), bare == 5 ? 6 : bare + 1);
            due("end(0)", x.end(0), bare == 5 ? 2 : 4);
            for (int i = 0; i < bare; i++) row(x, i, 0, 4, 2);
        }
    }

    @Edge(promise = 7, says = "NONE: the BODY")
    static void noSuchBody() {
        for (int count = 0; count <= 6; count++) {
            TypeStarts x = classes(count, 3);
            for (int body : outside(count)) due("action(" + body + ", 4)", x.action(body, 4, 1, 0, false), NONE);
        }
        for (int count = 0; count <= 3; count++) {
            TypeStarts x = classes(6, count);
            due("action(9, 4)", x.action(9, 4, 1, 0, false), NONE);
            for (int body = 10 + count; body <= 14; body++) {
                due("action(" + body + ", 4)", x.action(body, 4, 1, 0, false), NONE);
            }
        }
    }

    @Edge(promise = 7, says = "or TYPE a of 0 to 3")
    static void noSuchTypeInAnAction() {
        for (int count = 0; count <= 6; count += 3) {
            TypeStarts x = classes(count, 1);
            for (int kind = 0; kind <= 3; kind++) {
                for (int a : outside(count)) {
                    due("action(10, " + kind + ", " + a + ")", x.action(10, kind, a, 0, false), NONE);
                }
            }
        }
    }

    @Edge(promise = 7, says = "TYPE a of 0 to 3")
    static void throwAndLeaveNameNoType() {
        TypeStarts x = classes(0, 1);
        due("THROW 1", x.action(10, 4, 1, 0, false), 1);
        due("THROW 2", x.action(10, 4, 2, 0, false), 2);
        due("LEAVE 0", x.action(10, 5, 0, 0, false), 3);
        due("kind 6 of TYPE 9", x.action(10, 6, 9, 0, false), BAD);
        due("kind -1 of TYPE 9", x.action(10, -1, 9, 0, false), BAD);
    }

    @Edge(promise = 7, says = "BAD: kind")
    static void leastAndMostKind() {
        TypeStarts x = classes(2, 1);
        int[] noKinds = {-1, 6, 7, LEAST, MOST};
        for (int kind : noKinds) {
            for (int a = 0; a <= 2; a++) due("kind " + kind + ", a " + a, x.action(10, kind, a, 0, false), BAD);
        }
        due("kind 0", x.action(10, 0, 0, 0, false), 1);
        due("kind 5", x.action(10, 5, 0, 0, false), 2);
    }

    @Edge(promise = 7, says = "BAD: kind, a of 4")
    static void leastAndMostThatCanBeThrown() {
        TypeStarts x = classes(6, 1);
        int[] nothing = {0, 3, 4, 5, -1, LEAST, MOST};
        for (int a : nothing) due("THROW " + a, x.action(10, 4, a, 0, false), BAD);
        due("THROW 1", x.action(10, 4, 1, 0, false), 1);
        due("THROW 2", x.action(10, 4, 2, 0, false), 2);
    }

    @Edge(promise = 7, says = "v (of 1, 5: not -9 .. 9")
    static void leastAndMostNumberOfWriteAndLeave() {
        TypeStarts x = classes(1, 2);
        int[] farOff = {-10, 10, LEAST, MOST};
        for (int v : farOff) {
            due("WRITE " + v, x.action(10, 1, 0, v, false), BAD);
            due("LEAVE " + v, x.action(11, 5, 0, v, false), BAD);
        }
        int[] near = {-9, 9, 0};
        for (int i = 0; i < near.length; i++) {
            due("WRITE " + near[i], x.action(10, 1, 0, near[i], false), i + 1);
            due("LEAVE " + near[i], x.action(11, 5, 0, near[i], false), i + 1);
        }
    }

    @Edge(promise = 7, says = "of others not 0)")
    static void noNumberOfReadUsePassAndThrow() {
        TypeStarts x = classes(2, 1);
        int[] others = {0, 2, 3, 4};
        int[] numbers = {-1, 1, -9, 9, LEAST, MOST};
        for (int kind : others) {
            for (int v : numbers) due("kind " + kind + ", v " + v, x.action(10, kind, 1, v, false), BAD);
        }
        for (int i = 0; i < others.length; i++) {
            due("kind " + others[i] + ", v 0", x.action(10, others[i], 1, 0, false), i + 1);
        }
    }

    @Edge(promise = 7, says = "a of 5 not 0")
    static void leaveNamesNothing() {
        TypeStarts x = classes(6, 1);
        int[] named = {-1, 1, 2, 5, LEAST, MOST};
        for (int a : named) due("LEAVE, a " + a, x.action(10, 5, a, 0, false), BAD);
        due("LEAVE, a 0", x.action(10, 5, 0, 0, false), 1);
    }

    @Edge(promise = 7, says = "FULL.")
    static void aSixthAction() {
        TypeStarts x = classes(6, 3);
        int[] bodies = {0, 5, 10, 12};
        for (int body : bodies) {
            for (int i = 1; i <= 5; i++) due("action(" + body + ", 3)", x.action(body, 3, 0, 0, false), i);
            due("action(" + body + ", 3), the sixth", x.action(body, 3, 0, 0, false), FULL);
            due("action(" + body + ", 5), the sixth", x.action(body, 5, 0, 9, true), FULL);
        }
        due("action(1, 3)", x.action(1, 3, 0, 0, false), 1);
        due("action(11, 3)", x.action(11, 3, 0, 0, false), 1);
    }

    @Edge(promise = 7, says = "the first that fits")
    static void actionAnswersTheFirstThatFits() {
        TypeStarts x = classes(1, 1);
        for (int i = 0; i < 5; i++) x.action(10, 3, 0, 0, false);
        due("no BODY and BAD kind", x.action(11, 6, 0, 0, false), NONE);
        due("no BODY and BAD v", x.action(1, 4, 1, 1, false), NONE);
        due("no TYPE and BAD v", x.action(0, 0, 1, 1, false), NONE);
        due("no TYPE, BAD v and FULL", x.action(10, 1, 1, 10, false), NONE);
        due("no TYPE and FULL", x.action(10, 2, -1, 0, false), NONE);
        due("BAD kind and FULL", x.action(10, 6, 0, 0, false), BAD);
        due("BAD a and FULL", x.action(10, 4, 3, 0, false), BAD);
        due("BAD v and FULL", x.action(10, 5, 0, 10, false), BAD);
        due("FULL", x.action(10, 5, 0, 9, false), FULL);
    }

    // ---- promises 2 to 7: what a call that is done, and one that is refused, does to the RUN

    private static final String DONE = "(each that is done lets the RUN be as at first)";

    /** TYPE 1 is DONE, TYPE 0 has BEGUN, THREAD 0 is behind a WRITE and ahead of a USE. */
    private static TypeStarts inTheMiddle() {
        TypeStarts x = sorts(2, 0);
        x.field(1);
        x.thread();
        x.action(10, 1, 1, 7, false);
        x.action(10, 2, 0, 0, false);
        manyTurns(x, 0, 5);
        return x;
    }

    private static void isAsAtFirst(TypeStarts x) {
        due("steps()", x.steps(), 0);
        due("log(0, 0)", x.log(0, 0), NO_NUMBER);
        due("state(0)", x.state(0), 0);
        due("state(1)", x.state(1), 0);
        due("in(0)", x.in(0), NONE);
        due("value(1)", x.value(1), 0);
        due("end(0)", x.end(0), 0);
        due("start(0, 0)", x.start(0, 0), NONE);
        turns(x, 0);
        row(x, 0, 0, 0, 1);
    }

    private static void standsInTheMiddle(TypeStarts x) {
        due("steps()", x.steps(), 5);
        row(x, 2, 0, 0, 0);
        due("state(0)", x.state(0), 1);
        due("state(1)", x.state(1), 2);
        due("value(1)", x.value(1), 7);
        due("start(0, 0)", x.start(0, 0), 0);
    }

    @Edge(promise = 2, says = DONE)
    static void aTypeThatIsDoneOrRefused() {
        TypeStarts x = inTheMiddle();
        due("type(3, -1)", x.type(3, -1), BAD);
        due("type(0, 2)", x.type(0, 2), NONE);
        due("type(0, 0)", x.type(0, 0), STATE);
        standsInTheMiddle(x);
        due("type(0, -1)", x.type(0, -1), 2);
        isAsAtFirst(x);
        for (int t = 3; t < 6; t++) x.type(0, -1);
        manyTurns(x, 0, 5);
        due("type(0, -1)", x.type(0, -1), FULL);
        standsInTheMiddle(x);
    }

    @Edge(promise = 3, says = DONE)
    static void aFaceThatIsDoneOrRefused() {
        TypeStarts x = inTheMiddle();
        due("face(2, 0)", x.face(2, 0), NONE);
        due("face(0, 1)", x.face(0, 1), STATE);
        standsInTheMiddle(x);
        due("face(1, 0)", x.face(1, 0), 1);
        isAsAtFirst(x);
        x = sorts(1, 1, 1, 1, 0);
        x.thread();
        for (int f = 0; f < 3; f++) x.face(4, f);
        turns(x, 0);
        due("face(4, 3)", x.face(4, 3), FULL);
        due("end(0)", x.end(0), 2);
    }

    @Edge(promise = 4, says = DONE)
    static void aFieldThatIsDoneOrRefused() {
        TypeStarts x = inTheMiddle();
        due("field(2)", x.field(2), NONE);
        due("field(1)", x.field(1), STATE);
        standsInTheMiddle(x);
        due("field(0)", x.field(0), 1);
        isAsAtFirst(x);
    }

    @Edge(promise = 5, says = DONE)
    static void aThreadThatIsDoneOrRefused() {
        TypeStarts x = inTheMiddle();
        due("thread()", x.thread(), 1);
        isAsAtFirst(x);
        due("thread()", x.thread(), 2);
        manyTurns(x, 0, 5);
        due("thread()", x.thread(), FULL);
        standsInTheMiddle(x);
    }

    @Edge(promise = 6, says = DONE)
    static void aClearIsAlwaysDone() {
        TypeStarts x = inTheMiddle();
        x.clear();
        due("steps()", x.steps(), 0);
        due("log(0, 0)", x.log(0, 0), NO_NUMBER);
        due("begin()", x.begin(), 0);
        x.type(0, -1);
        x.thread();
        due("state(0)", x.state(0), 0);
        due("end(0)", x.end(0), 0);
        x.clear();
        due("search()", x.search(), 1);
        due("clear() of nothing", x.clear(), 0);
        due("points()", x.points(), STATE);
    }

    @Edge(promise = 7, says = DONE)
    static void anActionThatIsDoneOrRefused() {
        TypeStarts x = inTheMiddle();
        due("action(2, 4)", x.action(2, 4, 1, 0, false), NONE);
        due("action(10, 2, 2)", x.action(10, 2, 2, 0, false), NONE);
        due("action(10, 6)", x.action(10, 6, 0, 0, false), BAD);
        standsInTheMiddle(x);
        due("action(10, 3)", x.action(10, 3, 0, 0, false), 3);
        isAsAtFirst(x);
        x.action(10, 3, 0, 0, false);
        due("action(10, 3)", x.action(10, 3, 0, 0, false), 5);
        manyTurns(x, 0, 5);
        due("action(10, 3)", x.action(10, 3, 0, 0, false), FULL);
        standsInTheMiddle(x);
    }
}
