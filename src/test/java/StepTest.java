/** Promises 15, 16 and 18: step, app and kept. */
public final class StepTest {
    private static final Check CHECK = new Check("StepTest");

    private StepTest() {
    }

    public static void main(String[] args) {
        arithmetic();
        stackAndLocals();
        jumps();
        end();
        keepAndGet();
        keepsZero();
        failsByAFourthKey();
        failsByAWrongKey();
        failsByAWrongAction();
        turns();
        turnAfterAFailure();
        turnIsKeptWhenNobodyRuns();
        aboutAnApp();
        kept();
        CHECK.end();
    }

    /** Runs the words one by one and looks at place, height and uppermost after each: three numbers a word. */
    private static AppDesk watch(String what, int value, int[] words, int... due) {
        AppDesk desk = Words.running(5, value, words);
        for (int i = 0; i + 2 < due.length; i += 3) {
            String word = what + ", word " + (i / 3 + 1);
            CHECK.steps(word, desk, 5);
            CHECK.same(word + ": app(5, 3)", desk.app(5, 3), due[i]);
            CHECK.same(word + ": app(5, 4)", desk.app(5, 4), due[i + 1]);
            CHECK.same(word + ": app(5, 5)", desk.app(5, 5), due[i + 2]);
        }
        return desk;
    }

    private static void arithmetic() {
        watch("ADD", 0, new int[] {Words.push(30), Words.push(-4), Words.ADD, Words.END},
            1, 1, 30, 2, 2, -4, 3, 1, 26);
        watch("SUBTRACT", 0, new int[] {Words.push(30), Words.push(-4), Words.SUBTRACT, Words.END},
            1, 1, 30, 2, 2, -4, 3, 1, 34);
        watch("wrapping ADD", Integer.MAX_VALUE, new int[] {Words.load(0), Words.push(1), Words.ADD, Words.END},
            1, 1, Integer.MAX_VALUE, 2, 2, 1, 3, 1, Integer.MIN_VALUE);
        watch("wrapping SUBTRACT", Integer.MIN_VALUE, new int[] {Words.load(0), Words.push(1), Words.SUBTRACT, Words.END},
            1, 1, Integer.MIN_VALUE, 2, 2, 1, 3, 1, Integer.MAX_VALUE);
        watch("far PUSH", 0, new int[] {Words.push(134217727), Words.push(-134217728), Words.END},
            1, 1, 134217727, 2, 2, -134217728);
        watch("only the two uppermost", 0, new int[] {Words.push(1), Words.push(2), Words.push(3), Words.ADD, Words.SUBTRACT,
            Words.END}, 1, 1, 1, 2, 2, 2, 3, 3, 3, 4, 2, 5, 5, 1, -4);
    }

    private static void stackAndLocals() {
        watch("COPY and DROP", 0, new int[] {Words.push(8), Words.COPY, Words.push(9), Words.DROP, Words.DROP, Words.DROP,
            Words.END}, 1, 1, 8, 2, 2, 8, 3, 3, 9, 4, 2, 8, 5, 1, 8, 6, 0, 0);
        watch("LOAD and STORE", 44, new int[] {Words.load(0), Words.store(3), Words.push(2), Words.store(0), Words.load(3),
            Words.load(0), Words.load(1), Words.load(2), Words.END},
            1, 1, 44, 2, 0, 0, 3, 1, 2, 4, 0, 0, 5, 1, 44, 6, 2, 2, 7, 3, 5, 8, 4, 0);
        watch("a full stack", 0, new int[] {Words.push(1), Words.push(2), Words.push(3), Words.push(4), Words.push(5),
            Words.push(6), Words.ADD, Words.END},
            1, 1, 1, 2, 2, 2, 3, 3, 3, 4, 4, 4, 5, 5, 5, 6, 6, 6, 7, 5, 11);
    }

    private static void jumps() {
        watch("JUMP", 0, new int[] {Words.jump(2), Words.END, Words.jump(-1)}, 2, 0, 0, 1, 0, 0);
        watch("JUMP by 0", 0, new int[] {Words.jump(0)}, 0, 0, 0, 0, 0, 0);
        int[] code = {Words.push(3), Words.load(0), Words.jumpIfZero(2), Words.END, Words.jump(-1)};
        watch("JUMP if 0, which jumps", 0, code, 1, 1, 3, 2, 2, 0, 4, 1, 3, 3, 1, 3);
        watch("JUMP if 0, which goes on", 1, code, 1, 1, 3, 2, 2, 1, 3, 1, 3);
        watch("JUMP if 0, below 0", -1, code, 1, 1, 3, 2, 2, -1, 3, 1, 3);
        watch("JUMP back if 0", 0, new int[] {Words.load(0), Words.jumpIfZero(-1), Words.END}, 1, 1, 0, 0, 0, 0, 1, 1, 0);
    }

    private static void end() {
        AppDesk desk = watch("END", 0, new int[] {Words.push(3), Words.END}, 1, 1, 3, 0, 0, 0);
        CHECK.same("app(5, 2)", desk.app(5, 2), 0);
        CHECK.steps("after the end", desk, -1);
    }

    private static void keepAndGet() {
        AppDesk desk = watch("KEEP and GET", 12, new int[] {Words.push(7), Words.load(0), Words.KEEP, Words.push(7),
            Words.GET, Words.push(6), Words.GET, Words.END},
            1, 1, 7, 2, 2, 12, 3, 0, 0, 4, 1, 7, 5, 1, 12, 6, 2, 6, 7, 2, 0);
        CHECK.same("kept(5, 7)", desk.kept(5, 7), 12);
        CHECK.same("GET keeps nothing: app(5, 6)", desk.app(5, 6), 1);
        desk.step();
        desk.send(5, 0, 13);
        desk.deliver();
        CHECK.stepsMany("once more", desk, 5, 3);
        CHECK.same("kept anew: kept(5, 7)", desk.kept(5, 7), 13);
        CHECK.same("kept anew: app(5, 6)", desk.app(5, 6), 1);
    }

    private static void keepsZero() {
        AppDesk desk = Words.running(5, 0, Words.push(0), Words.load(0), Words.KEEP, Words.END);
        CHECK.stepsMany("KEEP 0", desk, 5, 3);
        CHECK.same("a key with 0 is kept too: app(5, 6)", desk.app(5, 6), 1);
        CHECK.same("kept(5, 0)", desk.kept(5, 0), 0);
    }

    private static void failsByAFourthKey() {
        AppDesk full = new AppDesk();
        Words.installPlain(full, 5, 0, Words.load(0), Words.COPY, Words.KEEP, Words.END);
        for (int key : new int[] {0, 7, 3}) {
            runOnce(full, key);
        }
        CHECK.same("three keys: app(5, 6)", full.app(5, 6), 3);
        for (int key : new int[] {1, 2, 4, 5, 6}) {
            full.send(5, 0, key);
            full.deliver();
            CHECK.stepsMany("LOAD, COPY", full, 5, 2);
            CHECK.stepFails("a fourth key, " + key, full);
            CHECK.same("app(5, 2)", full.app(5, 2), 0);
            CHECK.same("app(5, 3)", full.app(5, 3), 0);
            CHECK.same("app(5, 6)", full.app(5, 6), 3);
            CHECK.same("kept(5, " + key + ")", full.kept(5, key), 0);
        }
        for (int key : new int[] {7, 3, 0}) {
            runOnce(full, key);
            CHECK.same("one of the three: kept(5, " + key + ")", full.kept(5, key), key);
        }
    }

    private static void runOnce(AppDesk desk, int key) {
        desk.send(5, 0, key);
        desk.deliver();
        CHECK.stepsMany("KEEP under " + key, desk, 5, 4);
    }

    private static void failsByAWrongKey() {
        for (int key : new int[] {-1, 8, 32, Integer.MIN_VALUE, Integer.MAX_VALUE}) {
            AppDesk desk = Words.running(5, key, Words.load(0), Words.push(1), Words.KEEP, Words.END);
            CHECK.stepsMany("LOAD, PUSH", desk, 5, 2);
            CHECK.stepFails("KEEP under " + key, desk);
            CHECK.same("app(5, 6)", desk.app(5, 6), 0);
            CHECK.same("app(5, 2)", desk.app(5, 2), 0);
            CHECK.steps("after it", desk, -1);
            desk = Words.running(5, key, Words.load(0), Words.GET, Words.END);
            CHECK.steps("LOAD", desk, 5);
            CHECK.stepFails("GET of " + key, desk);
            CHECK.same("app(5, 2)", desk.app(5, 2), 0);
        }
    }

    private static void failsByAWrongAction() {
        for (int action : new int[] {-1, 10, Integer.MIN_VALUE, Integer.MAX_VALUE}) {
            AppDesk desk = Words.running(5, action, Words.load(0), Words.push(1), Words.SEND, Words.END);
            CHECK.stepsMany("LOAD, PUSH", desk, 5, 2);
            CHECK.stepFails("SEND with action " + action, desk);
            CHECK.same("queued()", desk.queued(), 0);
            CHECK.same("app(5, 2)", desk.app(5, 2), 0);
        }
        AppDesk desk = Words.running(5, 10, Words.load(0), Words.push(1), Words.SEND, Words.END);
        CHECK.stepsMany("LOAD, PUSH", desk, 5, 2);
        for (int i = 0; i < 8; i++) {
            desk.send(5, 1, 1);
        }
        CHECK.stepFails("SEND with action 10, the queue full", desk);
        for (int action : new int[] {0, 9}) {
            desk = Words.running(5, action, Words.load(0), Words.push(1), Words.SEND, Words.END);
            CHECK.stepsMany("LOAD, PUSH, SEND with action " + action, desk, 5, 3);
            CHECK.same("queued()", desk.queued(), 1);
        }
    }

    private static AppDesk running(int... names) {
        AppDesk desk = new AppDesk();
        for (int name : names) {
            Words.installPlain(desk, name, name, Words.jump(0));
            desk.send(name, name, 0);
            desk.deliver();
        }
        return desk;
    }

    private static void turns() {
        AppDesk desk = running(6, 0, 3);
        for (int name : new int[] {0, 3, 6, 0, 3, 6, 0}) {
            CHECK.steps("in turn", desk, name);
        }
        desk.remove(0);
        CHECK.steps("the one that stepped before is gone", desk, 3);
        Words.installPlain(desk, 4, 4, Words.END);
        desk.send(4, 4, 0);
        desk.deliver();
        CHECK.steps("a new one comes next", desk, 4);
        CHECK.steps("4 has ended, then 6", desk, 6);
        CHECK.steps("back to the least", desk, 3);
        CHECK.steps("4 is over", desk, 6);
        desk.remove(3);
        CHECK.steps("6 alone", desk, 6);
        CHECK.steps("6 alone", desk, 6);
        AppDesk last = running(7);
        CHECK.stepsMany("7 alone", last, 7, 3);
    }

    private static void turnAfterAFailure() {
        AppDesk desk = running(1, 6);
        Words.installPlain(desk, 3, 3, Words.push(9), Words.GET, Words.END);
        desk.send(3, 3, 0);
        desk.deliver();
        int[] due = {1, 3, 6, 1, -200, 6, 1, 6};
        for (int name : due) {
            CHECK.steps("with a failure", desk, name);
        }
        AppDesk alone = Words.running(3, 9, Words.load(0), Words.GET, Words.END);
        CHECK.steps("LOAD", alone, 3);
        CHECK.stepFails("GET", alone);
        Words.installPlain(alone, 2, 2, Words.jump(0));
        Words.installPlain(alone, 4, 4, Words.jump(0));
        alone.send(2, 2, 0);
        alone.send(4, 4, 0);
        alone.deliver();
        alone.deliver();
        CHECK.steps("the one above the one that failed", alone, 4);
    }

    private static void turnIsKeptWhenNobodyRuns() {
        AppDesk desk = Words.running(4, 0, Words.END);
        CHECK.steps("END of 4", desk, 4);
        CHECK.steps("nobody", desk, -1);
        Words.installPlain(desk, 2, 2, Words.jump(0));
        Words.installPlain(desk, 6, 6, Words.jump(0));
        desk.send(2, 2, 0);
        desk.send(6, 6, 0);
        desk.deliver();
        desk.deliver();
        CHECK.steps("above 4", desk, 6);
        CHECK.steps("then the least", desk, 2);
    }

    private static void aboutAnApp() {
        AppDesk desk = new AppDesk();
        desk.draft(5, 17, 3);
        Words.code(desk, Words.END, Words.push(6), Words.push(4), Words.KEEP, Words.push(-9), Words.jump(0));
        desk.part(0, true, -1, 1);
        desk.sign();
        desk.install();
        int[] resting = {17, 3, 0, 0, 0, 0, 0};
        int[] atWork = {17, 3, 1, 5, 1, -9, 1};
        compareAll(desk, "resting", resting);
        desk.send(5, 0, 0);
        desk.deliver();
        CHECK.stepsMany("running", desk, 5, 4);
        compareAll(desk, "at work", atWork);
        for (int what : new int[] {-1, 7, Integer.MIN_VALUE, Integer.MAX_VALUE}) {
            CHECK.same("app(5, " + what + ")", desk.app(5, what), -1);
        }
        for (int name : new int[] {-1, 8, 4, 6, Integer.MIN_VALUE, Integer.MAX_VALUE}) {
            for (int what = -1; what <= 7; what++) {
                CHECK.same("app(" + name + ", " + what + ")", desk.app(name, what), -1);
            }
        }
    }

    private static void compareAll(AppDesk desk, String when, int[] due) {
        for (int what = 0; what < due.length; what++) {
            CHECK.same(when + ": app(5, " + what + ")", desk.app(5, what), due[what]);
        }
    }

    private static void kept() {
        AppDesk desk = Words.running(5, -77, Words.push(0), Words.load(0), Words.KEEP, Words.push(7), Words.load(0),
            Words.KEEP, Words.END);
        CHECK.stepsMany("keeping", desk, 5, 7);
        CHECK.same("kept(5, 0)", desk.kept(5, 0), -77);
        CHECK.same("kept(5, 7)", desk.kept(5, 7), -77);
        for (int key : new int[] {-1, 8, 1, 32, -32, Integer.MIN_VALUE, Integer.MAX_VALUE}) {
            CHECK.same("kept(5, " + key + ")", desk.kept(5, key), 0);
        }
        for (int name : new int[] {-1, 8, 4, Integer.MIN_VALUE, Integer.MAX_VALUE}) {
            CHECK.same("kept(" + name + ", 0)", desk.kept(name, 0), 0);
        }
    }
}
