/** Promises 15, 16 and 18: step, app and kept. */
public final class StepTest {
    private static final int MIN = Integer.MIN_VALUE;
    private static final int MAX = Integer.MAX_VALUE;
    private static final Check CHECK = new Check("StepTest");

    private StepTest() {
    }

    public static void main(String[] args) {
        operations();
        failing();
        turns();
        aboutApps();
        keeping();
        CHECK.end();
    }

    private static void operations() {
        CHECK.about("0 END: it does not run any more", StepTest::end);
        CHECK.about("1 PUSH n", StepTest::push);
        CHECK.about("2 ADD: the two uppermost become one", StepTest::add);
        CHECK.about("3 SUBTRACT: the upper one from the lower one", StepTest::subtract);
        CHECK.about("a STACK of ints: what is too large or too small wraps", StepTest::wraps);
        CHECK.about("4 COPY: the uppermost once more. 5 DROP it", StepTest::copyAndDrop);
        CHECK.about("6 LOAD local n, 7 STORE the uppermost, which is dropped, into local n", StepTest::loadAndStore);
        CHECK.about("never more than 6: a full stack", StepTest::fullStack);
        CHECK.about("never more than 6: each operation that fills or finds a full stack", StepTest::operationsAtSix);
        CHECK.about("8 JUMP by n (to the place of this word and n)", StepTest::jump);
        CHECK.about("9 JUMP by n if the uppermost, which is dropped, is 0", StepTest::jumpIfZero);
        CHECK.about("10 GET: the uppermost becomes the value that the app keeps under it, 0 if none", StepTest::get);
        CHECK.about("11 KEEP: the uppermost is kept under the key below it; both are dropped", StepTest::keep);
        CHECK.about("the lowest four bits, n = w >> 4: words below 0", StepTest::wordsBelowZero);
    }

    private static void failing() {
        CHECK.about("An app keeps values under at most 3 keys; if it would be one more", StepTest::fourthKey);
        CHECK.about("at most 3 keys: one of the three may be kept anew", StepTest::threeKeysAnew);
        CHECK.about("at most 3 keys: GET of a fourth one does not fail", StepTest::getOfAFourthKey);
        CHECK.about("at most 3 keys: of each app", StepTest::threeKeysEach);
        CHECK.about("or a key is not 0 .. 7: KEEP", StepTest::keepUnderNoKey);
        CHECK.about("or a key is not 0 .. 7: GET", StepTest::getOfNoKey);
        CHECK.about("or an action that is sent not 0 .. 9", StepTest::sendNoAction);
        CHECK.about("or an action that is sent not 0 .. 9: even if the queue is full", StepTest::sendNoActionToAFullQueue);
        CHECK.about("it FAILS: nothing of that word is done", StepTest::nothingIsDone);
        CHECK.about("it does not run any more", StepTest::runsNoMore);
        CHECK.about("15: IllegalStateException if it fails by it: one that failed may run again", StepTest::runsAgain);
    }

    private static void turns() {
        CHECK.about("15: A step: the name of the app that made it", StepTest::oneAlone);
        CHECK.about("15: NONE if no app runs", StepTest::nobodyRuns);
        CHECK.about("the least name above that of the app which made the step before", StepTest::leastNameAbove);
        CHECK.about("else the least name", StepTest::elseTheLeast);
        CHECK.about("the running app that comes next: those that do not run are passed by", StepTest::passedBy);
        CHECK.about("15: and the next one is in turn", StepTest::turnAfterAFailure);
        CHECK.about("which made the step before: even if it ended by it", StepTest::turnAfterAnEnd);
        CHECK.about("which made the step before: even if it is removed", StepTest::turnAfterRemoving);
        CHECK.about("which made the step before: whatever calls come in between", StepTest::turnAfterOtherCalls);
    }

    private static void aboutApps() {
        CHECK.about("16: what 0 its version, 1 its signer .. 6 how many keys it keeps", StepTest::aboutAnApp);
        CHECK.about("16: NONE if none is installed under the name", StepTest::aboutNobody);
        CHECK.about("16: or there is no such what", StepTest::noSuchWhat);
        CHECK.about("16: 3, 4 and 5 are 0 if it does not run", StepTest::aboutOneThatRests);
        CHECK.about("16: 5 also if the stack is empty", StepTest::emptyStack);
        CHECK.about("16 to 19: looking changes nothing", StepTest::lookingChangesNothing);
    }

    private static void keeping() {
        CHECK.about("18: What an app keeps under a key", StepTest::keptUnderEach);
        CHECK.about("18: 0 if nothing: no such key", StepTest::keptUnderNoKey);
        CHECK.about("18: 0 if nothing: no such app", StepTest::keptByNobody);
        CHECK.about("18: 0 if nothing: a kept 0 is something all the same", StepTest::keptZero);
    }

    /** Runs the words one by one and looks at place, height and uppermost after each: three numbers a word. */
    private static AppDesk watch(String what, int value, int[] words, int... due) {
        AppDesk desk = Words.running(5, value, words);
        for (int i = 0; i + 2 < due.length; i += 3) {
            String word = what + ", word " + (i / 3 + 1);
            CHECK.steps(word, desk, 5);
            CHECK.same(word + ": app(5, 3)", desk.app(5, 3), due[i]);
            CHECK.same(word + ": app(5, 4)", desk.app(5, 4), due[i + 1]);
            CHECK.same(word + ": app(5, 5)", desk.app(5, 5), due[i + 2]);
        }
        return desk;
    }

    private static void end() {
        AppDesk desk = watch("END", 0, new int[] {Words.push(3), Words.END}, 1, 1, 3, 0, 0, 0);
        CHECK.same("app(5, 2)", desk.app(5, 2), 0);
        CHECK.steps("after the end", desk, -1);
    }

    private static void push() {
        watch("PUSH", 0, new int[] {Words.push(0), Words.push(134217727), Words.push(-134217728), Words.push(-1), Words.END},
            1, 1, 0, 2, 2, 134217727, 3, 3, -134217728, 4, 4, -1);
    }

    private static void add() {
        watch("ADD", 0, new int[] {Words.push(30), Words.push(-4), Words.ADD, Words.END},
            1, 1, 30, 2, 2, -4, 3, 1, 26);
        watch("only the two uppermost", 0, new int[] {Words.push(1), Words.push(2), Words.push(3), Words.ADD, Words.ADD,
            Words.END}, 1, 1, 1, 2, 2, 2, 3, 3, 3, 4, 2, 5, 5, 1, 6);
    }

    private static void subtract() {
        watch("SUBTRACT", 0, new int[] {Words.push(30), Words.push(-4), Words.SUBTRACT, Words.END},
            1, 1, 30, 2, 2, -4, 3, 1, 34);
        watch("only the two uppermost", 0, new int[] {Words.push(1), Words.push(2), Words.push(5), Words.SUBTRACT,
            Words.SUBTRACT, Words.END}, 1, 1, 1, 2, 2, 2, 3, 3, 5, 4, 2, -3, 5, 1, 4);
    }

    private static void wraps() {
        watch("MAX + 1", MAX, new int[] {Words.load(0), Words.push(1), Words.ADD, Words.END},
            1, 1, MAX, 2, 2, 1, 3, 1, MIN);
        watch("MIN - 1", MIN, new int[] {Words.load(0), Words.push(1), Words.SUBTRACT, Words.END},
            1, 1, MIN, 2, 2, 1, 3, 1, MAX);
        watch("MIN + MIN", MIN, new int[] {Words.load(0), Words.COPY, Words.ADD, Words.END},
            1, 1, MIN, 2, 2, MIN, 3, 1, 0);
        watch("0 - MIN", MIN, new int[] {Words.push(0), Words.load(0), Words.SUBTRACT, Words.END},
            1, 1, 0, 2, 2, MIN, 3, 1, MIN);
    }

    private static void copyAndDrop() {
        watch("COPY and DROP", 0, new int[] {Words.push(8), Words.COPY, Words.push(9), Words.DROP, Words.DROP, Words.DROP,
            Words.END}, 1, 1, 8, 2, 2, 8, 3, 3, 9, 4, 2, 8, 5, 1, 8, 6, 0, 0);
    }

    private static void loadAndStore() {
        watch("LOAD and STORE", 44, new int[] {Words.load(0), Words.store(3), Words.push(2), Words.store(0), Words.load(3),
            Words.load(0), Words.load(1), Words.load(2), Words.END},
            1, 1, 44, 2, 0, 0, 3, 1, 2, 4, 0, 0, 5, 1, 44, 6, 2, 2, 7, 3, 5, 8, 4, 0);
        watch("every local", 44, new int[] {Words.push(6), Words.store(1), Words.push(7), Words.store(2), Words.load(0),
            Words.load(1), Words.load(2), Words.load(3), Words.END},
            1, 1, 6, 2, 0, 0, 3, 1, 7, 4, 0, 0, 5, 1, 44, 6, 2, 6, 7, 3, 7, 8, 4, 0);
    }

    private static void fullStack() {
        watch("six", 0, new int[] {Words.push(1), Words.push(2), Words.push(3), Words.push(4), Words.push(5),
            Words.push(6), Words.ADD, Words.DROP, Words.DROP, Words.DROP, Words.DROP, Words.DROP, Words.END},
            1, 1, 1, 2, 2, 2, 3, 3, 3, 4, 4, 4, 5, 5, 5, 6, 6, 6, 7, 5, 11, 8, 4, 4, 9, 3, 3, 10, 2, 2, 11, 1, 1, 12, 0, 0);
    }

    /** The numbers 1 to 6 lie on the stack before the word; height and uppermost after it are due. */
    private static AppDesk atSix(int w, int height, int uppermost) {
        AppDesk desk = Words.running(5, 7, Words.push(1), Words.push(2), Words.push(3), Words.push(4), Words.push(5),
            Words.push(6), w, Words.END);
        CHECK.stepsMany("six and word " + w, desk, 5, 7);
        CHECK.same("word " + w + ": app(5, 3)", desk.app(5, 3), 7);
        CHECK.same("word " + w + ": app(5, 4)", desk.app(5, 4), height);
        CHECK.same("word " + w + ": app(5, 5)", desk.app(5, 5), uppermost);
        return desk;
    }

    private static void operationsAtSix() {
        atSix(Words.ADD, 5, 11);
        atSix(Words.SUBTRACT, 5, -1);
        atSix(Words.DROP, 5, 5);
        atSix(Words.store(0), 5, 5);
        atSix(Words.jump(1), 6, 6);
        atSix(Words.jumpIfZero(1), 5, 5);
        atSix(Words.GET, 6, 0);
        CHECK.same("KEEP: kept(5, 5)", atSix(Words.KEEP, 4, 4).kept(5, 5), 6);
        AppDesk desk = atSix(Words.SEND, 4, 4);
        Words.installPlain(desk, 0, 5, Words.load(0), Words.END);
        CHECK.same("SEND of action 5: deliver()", desk.deliver(), 0);
        for (int w : new int[] {Words.push(9), Words.COPY, Words.load(0), Words.holds(0)}) {
            int due = w == Words.COPY ? 5 : w == Words.holds(0) ? 0 : w == Words.load(0) ? 7 : 9;
            watch("word " + w + " at height 5", 7, new int[] {Words.push(1), Words.push(2), Words.push(3), Words.push(4),
                Words.push(5), w, Words.END}, 1, 1, 1, 2, 2, 2, 3, 3, 3, 4, 4, 4, 5, 5, 5, 6, 6, due);
        }
    }

    private static void jump() {
        watch("on and back", 0, new int[] {Words.jump(2), Words.END, Words.jump(-1)}, 2, 0, 0, 1, 0, 0);
        watch("by 0", 0, new int[] {Words.jump(0)}, 0, 0, 0, 0, 0, 0);
        watch("the stack stays", 0, new int[] {Words.push(4), Words.jump(1), Words.END}, 1, 1, 4, 2, 1, 4);
    }

    private static void jumpIfZero() {
        int[] code = {Words.push(3), Words.load(0), Words.jumpIfZero(2), Words.END, Words.jump(-1)};
        watch("0 jumps", 0, code, 1, 1, 3, 2, 2, 0, 4, 1, 3, 3, 1, 3);
        for (int value : new int[] {1, -1, 2, 16, 65536, MIN, MAX}) {
            watch(value + " goes on", value, code, 1, 1, 3, 2, 2, value, 3, 1, 3);
        }
        watch("back", 0, new int[] {Words.load(0), Words.jumpIfZero(-1), Words.END}, 1, 1, 0, 0, 0, 0, 1, 1, 0);
        int[] to = {Words.push(3), Words.COPY, Words.jumpIfZero(-1), Words.END};
        watch("not 0, so not back", 0, to, 1, 1, 3, 2, 2, 3, 3, 1, 3);
    }

    private static void get() {
        int[] code = {Words.push(7), Words.load(0), Words.KEEP, Words.push(7), Words.GET, Words.push(6), Words.GET, Words.END};
        AppDesk desk = watch("GET", 12, code, 1, 1, 7, 2, 2, 12, 3, 0, 0, 4, 1, 7, 5, 1, 12, 6, 2, 6, 7, 2, 0);
        CHECK.same("GET keeps nothing: app(5, 6)", desk.app(5, 6), 1);
        CHECK.same("and leaves what is kept: kept(5, 7)", desk.kept(5, 7), 12);
        for (int key = 0; key < 8; key++) {
            watch("nothing under " + key, key, new int[] {Words.load(0), Words.GET, Words.END}, 1, 1, key, 2, 1, 0);
        }
    }

    private static void keep() {
        int[] code = {Words.push(9), Words.push(7), Words.load(0), Words.KEEP, Words.END};
        AppDesk desk = watch("KEEP", 12, code, 1, 1, 9, 2, 2, 7, 3, 3, 12, 4, 1, 9);
        CHECK.same("kept(5, 7)", desk.kept(5, 7), 12);
        desk.step();
        desk.send(5, 0, 13);
        desk.deliver();
        CHECK.stepsMany("once more", desk, 5, 4);
        CHECK.same("kept anew: kept(5, 7)", desk.kept(5, 7), 13);
        CHECK.same("kept anew: app(5, 6)", desk.app(5, 6), 1);
    }

    private static void wordsBelowZero() {
        watch("-15 is PUSH -1, -16 is END", 0, new int[] {-15, -16}, 1, 1, -1, 0, 0, 0);
        watch("MIN + 1 is PUSH of the least n", 0, new int[] {MIN + 1, MIN}, 1, 1, -134217728, 0, 0, 0);
        watch("-24 is JUMP by -2", 0, new int[] {Words.push(1), Words.DROP, -24}, 1, 1, 1, 2, 0, 0, 0, 0, 0);
        watch("-14 is ADD", 0, new int[] {Words.push(1), Words.push(2), -14, -16}, 1, 1, 1, 2, 2, 2, 3, 1, 3);
    }

    /** Keeps the value that it is sent under itself as the key. */
    private static AppDesk keeper(int... keys) {
        AppDesk desk = new AppDesk();
        Words.installPlain(desk, 5, 0, Words.load(0), Words.COPY, Words.KEEP, Words.END);
        for (int key : keys) {
            beginToKeep(desk, key);
            CHECK.stepsMany("KEEP under " + key, desk, 5, 2);
        }
        return desk;
    }

    private static void beginToKeep(AppDesk desk, int key) {
        desk.send(5, 0, key);
        desk.deliver();
        CHECK.stepsMany("LOAD, COPY", desk, 5, 2);
    }

    private static void fourthKey() {
        for (int key : new int[] {1, 2, 4, 5, 6}) {
            AppDesk desk = keeper(0, 7, 3);
            CHECK.same("three keys: app(5, 6)", desk.app(5, 6), 3);
            beginToKeep(desk, key);
            CHECK.stepFails("a fourth key, " + key, desk);
            CHECK.same("app(5, 6)", desk.app(5, 6), 3);
            CHECK.same("kept(5, " + key + ")", desk.kept(5, key), 0);
        }
    }

    private static void threeKeysAnew() {
        AppDesk desk = new AppDesk();
        Words.installPlain(desk, 5, 0, Words.load(0), Words.load(0), Words.KEEP, Words.END);
        for (int key : new int[] {0, 7, 3, 7, 3, 0, 0}) {
            desk.send(5, 0, key);
            desk.deliver();
            CHECK.stepsMany("KEEP under " + key, desk, 5, 4);
            CHECK.same("kept(5, " + key + ")", desk.kept(5, key), key);
        }
        CHECK.same("app(5, 6)", desk.app(5, 6), 3);
    }

    private static void getOfAFourthKey() {
        AppDesk desk = keeper(0, 7, 3);
        desk.draft(5, 2, 0);
        Words.code(desk, Words.load(0), Words.GET, Words.END);
        desk.part(0, true, -1, 0);
        desk.sign();
        desk.install();
        for (int key = 0; key < 8; key++) {
            desk.send(5, 0, key);
            desk.deliver();
            CHECK.stepsMany("LOAD, GET of " + key, desk, 5, 2);
            CHECK.same("app(5, 5)", desk.app(5, 5), key == 7 || key == 3 ? key : 0);
            CHECK.steps("END", desk, 5);
        }
        CHECK.same("app(5, 6)", desk.app(5, 6), 3);
    }

    private static void threeKeysEach() {
        AppDesk desk = keeper(1, 2, 3);
        Words.installPlain(desk, 6, 6, Words.load(0), Words.load(0), Words.KEEP, Words.END);
        for (int key : new int[] {4, 5, 6}) {
            desk.send(6, 6, key);
            desk.deliver();
            CHECK.stepsMany("app 6 keeps under " + key, desk, 6, 4);
        }
        CHECK.same("app(6, 6)", desk.app(6, 6), 3);
        CHECK.same("kept(6, 1)", desk.kept(6, 1), 0);
        CHECK.same("kept(5, 4)", desk.kept(5, 4), 0);
    }

    private static void keepUnderNoKey() {
        for (int key : new int[] {-1, 8, 9, 31, 32, -32, MIN, MAX}) {
            AppDesk desk = keeper();
            beginToKeep(desk, key);
            CHECK.stepFails("KEEP under " + key, desk);
            CHECK.same("app(5, 6)", desk.app(5, 6), 0);
        }
        for (int key = 0; key < 8; key++) {
            CHECK.same("a key: kept(5, " + key + ")", keeper(key).kept(5, key), key);
        }
    }

    private static void getOfNoKey() {
        for (int key : new int[] {-1, 8, 9, 31, 32, -32, MIN, MAX}) {
            AppDesk desk = Words.running(5, key, Words.load(0), Words.GET, Words.END);
            CHECK.steps("LOAD", desk, 5);
            CHECK.stepFails("GET of " + key, desk);
            CHECK.same("app(5, 2)", desk.app(5, 2), 0);
        }
    }

    private static AppDesk beforeSend(int action) {
        AppDesk desk = Words.running(5, action, Words.load(0), Words.push(1), Words.SEND, Words.END);
        CHECK.stepsMany("LOAD, PUSH", desk, 5, 2);
        return desk;
    }

    private static void sendNoAction() {
        for (int action : new int[] {-1, 10, 11, 32, MIN, MAX}) {
            AppDesk desk = beforeSend(action);
            CHECK.stepFails("SEND with action " + action, desk);
            CHECK.same("queued()", desk.queued(), 0);
            CHECK.same("app(5, 2)", desk.app(5, 2), 0);
        }
        for (int action = 0; action < 10; action++) {
            AppDesk desk = beforeSend(action);
            CHECK.steps("SEND with action " + action, desk, 5);
            CHECK.same("queued()", desk.queued(), 1);
        }
    }

    private static void sendNoActionToAFullQueue() {
        AppDesk desk = beforeSend(10);
        for (int i = 0; i < 8; i++) {
            desk.send(5, 1, 1);
        }
        CHECK.stepFails("SEND with action 10", desk);
        CHECK.same("queued()", desk.queued(), 8);
    }

    private static void nothingIsDone() {
        AppDesk desk = keeper(1, 2, 3);
        beginToKeep(desk, 4);
        CHECK.stepFails("KEEP under a fourth key", desk);
        for (int key = 0; key < 8; key++) {
            CHECK.same("kept(5, " + key + ")", desk.kept(5, key), key >= 1 && key <= 3 ? key : 0);
        }
        desk = beforeSend(10);
        desk.send(5, 0, 60);
        CHECK.stepFails("SEND with action 10", desk);
        CHECK.same("queued()", desk.queued(), 1);
        CHECK.same("the intent that was there: deliver()", desk.deliver(), 5);
        CHECK.steps("LOAD 0", desk, 5);
        CHECK.same("its value: app(5, 5)", desk.app(5, 5), 60);
    }

    private static void runsNoMore() {
        AppDesk desk = keeper();
        beginToKeep(desk, 8);
        CHECK.stepFails("KEEP under 8", desk);
        for (int what = 2; what <= 6; what++) {
            CHECK.same("app(5, " + what + ")", desk.app(5, what), 0);
        }
        CHECK.steps("nobody runs", desk, -1);
    }

    private static void runsAgain() {
        AppDesk desk = keeper(6);
        beginToKeep(desk, 8);
        CHECK.stepFails("KEEP under 8", desk);
        CHECK.same("what it kept before: kept(5, 6)", desk.kept(5, 6), 6);
        desk.send(5, 0, 2);
        CHECK.same("deliver()", desk.deliver(), 5);
        CHECK.same("app(5, 3)", desk.app(5, 3), 0);
        CHECK.same("app(5, 4)", desk.app(5, 4), 0);
        CHECK.stepsMany("to the end", desk, 5, 4);
        CHECK.same("kept(5, 2)", desk.kept(5, 2), 2);
    }

    private static AppDesk running(int... names) {
        AppDesk desk = new AppDesk();
        for (int name : names) {
            join(desk, name, Words.jump(0));
        }
        return desk;
    }

    private static void join(AppDesk desk, int name, int... words) {
        Words.installPlain(desk, name, name, words);
        desk.send(name, name, 0);
        desk.deliver();
    }

    private static void inTurn(AppDesk desk, int... names) {
        for (int name : names) {
            CHECK.steps("in turn", desk, name);
        }
    }

    private static void oneAlone() {
        for (int name = 0; name < 8; name++) {
            inTurn(running(name), name, name, name);
        }
    }

    private static AppDesk nobodyRunning() {
        AppDesk desk = Twins.busyDesk();
        desk.remove(1);
        desk.remove(3);
        return desk;
    }

    private static void nobodyRuns() {
        CHECK.steps("nothing is installed", new AppDesk(), -1);
        Twins.stayAlike(CHECK, "steps when nobody runs", StepTest::nobodyRunning, desk -> {
            CHECK.steps("app 6 rests", desk, -1);
            CHECK.steps("app 6 rests", desk, -1);
        });
    }

    private static void leastNameAbove() {
        inTurn(running(6, 0, 3), 0, 3, 6);
        inTurn(running(7, 6, 5, 4, 3, 2, 1, 0), 0, 1, 2, 3, 4, 5, 6, 7);
        AppDesk desk = running(1, 7);
        inTurn(desk, 1);
        join(desk, 5, Words.jump(0));
        join(desk, 2, Words.jump(0));
        join(desk, 0, Words.jump(0));
        inTurn(desk, 2, 5, 7);
    }

    private static void elseTheLeast() {
        inTurn(running(6, 0, 3), 0, 3, 6, 0, 3, 6, 0);
        inTurn(running(7, 0), 0, 7, 0, 7, 0);
        AppDesk desk = running(5, 2);
        inTurn(desk, 2, 5);
        join(desk, 1, Words.jump(0));
        inTurn(desk, 1, 2, 5, 1);
    }

    private static void passedBy() {
        AppDesk desk = running(0, 5);
        Words.installPlain(desk, 3, 3, Words.END);
        join(desk, 4, Words.END);
        inTurn(desk, 0, 4, 5, 0, 5, 0);
    }

    private static void turnAfterAFailure() {
        AppDesk desk = running(1, 6);
        join(desk, 3, Words.push(9), Words.GET, Words.END);
        inTurn(desk, 1, 3, 6, 1, -200, 6, 1, 6);
        AppDesk alone = new AppDesk();
        join(alone, 3, Words.push(9), Words.GET, Words.END);
        inTurn(alone, 3, -200, -1);
        join(alone, 2, Words.jump(0));
        join(alone, 4, Words.jump(0));
        inTurn(alone, 4, 2, 4);
        AppDesk joined = running(1, 6);
        join(joined, 3, Words.push(9), Words.GET, Words.END);
        inTurn(joined, 1, 3, 6, 1, -200);
        join(joined, 2, Words.jump(0));
        inTurn(joined, 6, 1, 2, 6);
    }

    private static void turnAfterAnEnd() {
        AppDesk desk = new AppDesk();
        join(desk, 4, Words.END);
        inTurn(desk, 4, -1, -1);
        join(desk, 2, Words.jump(0));
        join(desk, 6, Words.jump(0));
        inTurn(desk, 6, 2, 6);
    }

    private static void turnAfterRemoving() {
        AppDesk desk = running(1, 4, 6);
        inTurn(desk, 1, 4);
        desk.remove(4);
        inTurn(desk, 6, 1, 6);
        AppDesk last = running(0, 7);
        inTurn(last, 0, 7);
        last.remove(7);
        inTurn(last, 0, 0);
    }

    private static void turnAfterOtherCalls() {
        AppDesk desk = running(1, 4, 6);
        Words.installPlain(desk, 0, 0, Words.jump(0));
        Words.installPlain(desk, 5, 5, Words.END);
        inTurn(desk, 1, 4);
        desk.draft(5, 1, 0);
        CHECK.badArgument("an empty draft", desk);
        desk.draft(5, 2, 0);
        desk.word(Words.END);
        desk.part(0, true, -1, 0);
        desk.sign();
        CHECK.installs("an upgrade of app 5", desk, 5);
        desk.remove(5);
        desk.send(1, 0, 0);
        CHECK.same("app 0 runs too: deliver()", desk.deliver(), 0);
        inTurn(desk, 6, 0, 1, 4);
    }

    private static void aboutAnApp() {
        AppDesk desk = new AppDesk();
        desk.draft(5, MAX, 3);
        Words.code(desk, Words.END, Words.push(6), Words.push(4), Words.KEEP, Words.push(-9), Words.jump(0));
        desk.part(0, true, -1, 1);
        desk.sign();
        desk.install();
        desk.send(5, 0, 0);
        desk.deliver();
        CHECK.stepsMany("running", desk, 5, 4);
        int[] due = {MAX, 3, 1, 5, 1, -9, 1};
        for (int what = 0; what < due.length; what++) {
            CHECK.same("app(5, " + what + ")", desk.app(5, what), due[what]);
        }
    }

    private static void aboutNobody() {
        AppDesk desk = running(5);
        for (int name : new int[] {-1, 8, 9, 32, 37, -27, 0, 4, 6, 7, MIN, MAX}) {
            for (int what = 0; what <= 6; what++) {
                CHECK.same("app(" + name + ", " + what + ")", desk.app(name, what), -1);
            }
        }
    }

    private static void noSuchWhat() {
        AppDesk desk = running(5);
        for (int what : new int[] {-1, 7, 8, 9, 16, MIN, MAX}) {
            CHECK.same("app(5, " + what + ")", desk.app(5, what), -1);
            CHECK.same("nobody: app(4, " + what + ")", desk.app(4, what), -1);
        }
    }

    private static void aboutOneThatRests() {
        AppDesk desk = new AppDesk();
        Words.installPlain(desk, 5, 0, Words.push(1), Words.push(2), Words.END);
        for (int round = 0; round < 2; round++) {
            for (int what = 2; what <= 5; what++) {
                CHECK.same("round " + round + ": app(5, " + what + ")", desk.app(5, what), 0);
            }
            desk.send(5, 0, 0);
            desk.deliver();
            CHECK.stepsMany("to the end", desk, 5, 3);
        }
    }

    private static void emptyStack() {
        AppDesk desk = Words.running(5, 7, Words.push(3), Words.DROP, Words.jump(0));
        CHECK.same("at the beginning: app(5, 5)", desk.app(5, 5), 0);
        desk.step();
        CHECK.same("not empty: app(5, 5)", desk.app(5, 5), 3);
        desk.step();
        CHECK.same("empty again: app(5, 5)", desk.app(5, 5), 0);
        CHECK.same("app(5, 4)", desk.app(5, 4), 0);
        CHECK.same("it still runs: app(5, 2)", desk.app(5, 2), 1);
    }

    private static void lookingChangesNothing() {
        Twins.stayAlike(CHECK, "looking", Twins::busyDesk, desk -> {
            for (int name : new int[] {1, 6, 8}) {
                for (int number : new int[] {-1, 0, 3, 8}) {
                    desk.app(name, number);
                    desk.holds(name, number);
                    desk.kept(name, number);
                }
            }
            desk.queued();
        });
    }

    private static void keptUnderEach() {
        for (int key = 0; key < 8; key++) {
            for (int value : new int[] {-77, MIN, MAX}) {
                AppDesk desk = Words.running(5, value, Words.push(key), Words.load(0), Words.KEEP, Words.END);
                CHECK.same("before: kept(5, " + key + ")", desk.kept(5, key), 0);
                CHECK.stepsMany("keeping", desk, 5, 4);
                for (int other = 0; other < 8; other++) {
                    CHECK.same("kept(5, " + other + ")", desk.kept(5, other), other == key ? value : 0);
                }
            }
        }
    }

    private static AppDesk keepsUnderFirstAndLast() {
        AppDesk desk = Words.running(5, -77, Words.push(0), Words.load(0), Words.KEEP, Words.push(7), Words.load(0),
            Words.KEEP, Words.END);
        CHECK.stepsMany("keeping", desk, 5, 7);
        return desk;
    }

    private static void keptUnderNoKey() {
        AppDesk desk = keepsUnderFirstAndLast();
        for (int key : new int[] {-1, 8, 9, 31, 32, 39, -32, -25, MIN, MAX}) {
            CHECK.same("kept(5, " + key + ")", desk.kept(5, key), 0);
        }
    }

    private static void keptByNobody() {
        AppDesk desk = keepsUnderFirstAndLast();
        for (int name : new int[] {-1, 8, 9, 0, 4, 6, 7, 37, -27, MIN, MAX}) {
            CHECK.same("kept(" + name + ", 0)", desk.kept(name, 0), 0);
            CHECK.same("kept(" + name + ", 7)", desk.kept(name, 7), 0);
        }
        desk.remove(5);
        CHECK.same("removed: kept(5, 0)", desk.kept(5, 0), 0);
    }

    private static void keptZero() {
        AppDesk desk = Words.running(5, 0, Words.push(4), Words.load(0), Words.KEEP, Words.END);
        CHECK.stepsMany("KEEP 0", desk, 5, 3);
        CHECK.same("kept(5, 4)", desk.kept(5, 4), 0);
        CHECK.same("it counts as a key: app(5, 6)", desk.app(5, 6), 1);
    }
}
