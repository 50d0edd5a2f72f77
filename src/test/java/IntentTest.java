/** Promises 13, 14 and 19: send, deliver and queued. */
public final class IntentTest {
    private static final Check CHECK = new Check("IntentTest");

    private IntentTest() {
    }

    public static void main(String[] args) {
        sendRefused();
        fullQueue();
        inOrder();
        whatARunBeginsWith();
        firstByNameAndPart();
        notToOneThatRuns();
        closedParts();
        guards();
        guardOfOwnPart();
        guardAtDelivery();
        sentByCode();
        sentByCodeToAFullQueue();
        CHECK.end();
    }

    private static void put(AppDesk desk) {
        desk.sign();
        desk.install();
    }

    private static void sendRefused() {
        AppDesk desk = new AppDesk();
        Words.installPlain(desk, 3, 0, Words.END);
        for (int name : new int[] {-1, 8, 0, 2, 4, Integer.MIN_VALUE, Integer.MAX_VALUE}) {
            CHECK.no("send(" + name + ", 0, 0)", desk.send(name, 0, 0));
        }
        for (int action : new int[] {-1, 10, Integer.MIN_VALUE, Integer.MAX_VALUE}) {
            CHECK.no("send(3, " + action + ", 0)", desk.send(3, action, 0));
        }
        CHECK.same("queued()", desk.queued(), 0);
        CHECK.yes("send(3, 0, MIN)", desk.send(3, 0, Integer.MIN_VALUE));
        CHECK.yes("send(3, 9, MAX)", desk.send(3, 9, Integer.MAX_VALUE));
        CHECK.same("queued()", desk.queued(), 2);
    }

    private static void fullQueue() {
        AppDesk desk = new AppDesk();
        Words.installPlain(desk, 3, 0, Words.END);
        for (int i = 1; i <= 8; i++) {
            CHECK.yes("send " + i, desk.send(3, 5, i));
            CHECK.same("queued()", desk.queued(), i);
        }
        CHECK.no("send 9", desk.send(3, 5, 9));
        CHECK.same("queued()", desk.queued(), 8);
        CHECK.same("deliver(): lost", desk.deliver(), -1);
        CHECK.same("a lost one leaves: queued()", desk.queued(), 7);
        CHECK.yes("send 9 again", desk.send(3, 0, 9));
        for (int i = 7; i >= 1; i--) {
            CHECK.same("deliver(): lost", desk.deliver(), -1);
            CHECK.same("queued()", desk.queued(), i);
        }
        CHECK.same("deliver() the last", desk.deliver(), 3);
        CHECK.same("deliver() none", desk.deliver(), -1);
        CHECK.same("queued()", desk.queued(), 0);
    }

    private static void inOrder() {
        AppDesk desk = new AppDesk();
        Words.installPlain(desk, 1, 1, Words.load(0), Words.END);
        Words.installPlain(desk, 2, 2, Words.load(0), Words.END);
        desk.send(2, 2, 21);
        desk.send(2, 1, 22);
        desk.send(1, 2, 23);
        int[] due = {2, 1, 2};
        for (int i = 0; i < 3; i++) {
            CHECK.same("deliver() " + i, desk.deliver(), due[i]);
            CHECK.steps("LOAD 0", desk, due[i]);
            CHECK.same("the value", desk.app(due[i], 5), 21 + i);
            CHECK.steps("END", desk, due[i]);
        }
    }

    private static void whatARunBeginsWith() {
        AppDesk desk = new AppDesk();
        Words.installPlain(desk, 6, 9, Words.END);
        int[] code = {Words.END, Words.load(0), Words.load(1), Words.load(2), Words.load(3),
            Words.push(7), Words.COPY, Words.store(2), Words.store(3), Words.END};
        desk.draft(2, 1, 0);
        Words.code(desk, code);
        desk.part(4, true, -1, 1);
        put(desk);
        for (int round = 0; round < 2; round++) {
            desk.send(6, 4, -55);
            CHECK.same("deliver()", desk.deliver(), 2);
            CHECK.same("it runs: app(2, 2)", desk.app(2, 2), 1);
            CHECK.same("from its place on: app(2, 3)", desk.app(2, 3), 1);
            CHECK.same("an empty stack: app(2, 4)", desk.app(2, 4), 0);
            CHECK.same("an empty stack: app(2, 5)", desk.app(2, 5), 0);
            for (int local : new int[] {-55, 6, 0, 0}) {
                CHECK.steps("LOAD", desk, 2);
                CHECK.same("a local", desk.app(2, 5), local);
            }
            CHECK.stepsMany("to the end", desk, 2, 5);
        }
    }

    private static void firstByNameAndPart() {
        AppDesk desk = new AppDesk();
        Words.installPlain(desk, 7, 3, Words.jump(0));
        desk.draft(4, 1, 0);
        Words.code(desk, Words.END, Words.jump(0), Words.jump(0));
        desk.part(2, true, -1, 0);
        desk.part(3, true, -1, 2);
        desk.part(3, true, -1, 1);
        put(desk);
        Words.installPlain(desk, 1, 5, Words.END);
        desk.send(1, 3, 0);
        desk.send(1, 3, 0);
        desk.send(1, 3, 0);
        CHECK.same("the least name", desk.deliver(), 4);
        CHECK.same("the first part with the action: app(4, 3)", desk.app(4, 3), 2);
        CHECK.same("the next name", desk.deliver(), 7);
        CHECK.same("nobody is left", desk.deliver(), -1);
    }

    private static void notToOneThatRuns() {
        AppDesk desk = new AppDesk();
        Words.installPlain(desk, 4, 3, Words.load(0), Words.END);
        desk.send(4, 3, 1);
        desk.send(4, 3, 2);
        desk.send(4, 3, 3);
        CHECK.same("deliver()", desk.deliver(), 4);
        CHECK.same("it runs: deliver()", desk.deliver(), -1);
        CHECK.stepsMany("to the end", desk, 4, 2);
        CHECK.same("it does not run: deliver()", desk.deliver(), 4);
        CHECK.steps("LOAD 0", desk, 4);
        CHECK.same("the third intent's value", desk.app(4, 5), 3);
    }

    private static void closedParts() {
        AppDesk desk = new AppDesk();
        desk.draft(4, 1, 0);
        Words.code(desk, Words.END, Words.END);
        desk.part(3, false, -1, 1);
        desk.part(3, true, -1, 0);
        desk.part(6, false, -1, 0);
        put(desk);
        Words.installPlain(desk, 5, 1, Words.END);
        desk.send(5, 6, 0);
        CHECK.same("closed to others", desk.deliver(), -1);
        desk.send(4, 6, 0);
        CHECK.same("closed, but its own", desk.deliver(), 4);
        desk.step();
        desk.send(5, 3, 0);
        CHECK.same("the open part behind the closed one", desk.deliver(), 4);
        CHECK.same("app(4, 3)", desk.app(4, 3), 0);
        desk.step();
        desk.send(4, 3, 0);
        CHECK.same("the closed part comes first for itself", desk.deliver(), 4);
        CHECK.same("app(4, 3)", desk.app(4, 3), 1);
    }

    private static void guards() {
        AppDesk desk = new AppDesk();
        desk.draft(4, 1, 0);
        Words.code(desk, Words.END, Words.END);
        desk.part(3, true, 0, 1);
        desk.part(5, false, 7, 0);
        desk.declare(0, 1);
        put(desk);
        desk.draft(5, 1, 0);
        desk.word(Words.END);
        desk.part(9, true, -1, 0);
        desk.ask(0);
        desk.ask(7);
        put(desk);
        desk.send(5, 3, 0);
        CHECK.same("the guard is not held", desk.deliver(), -1);
        desk.grant(5, 0);
        desk.send(5, 3, 0);
        CHECK.same("the guard is held", desk.deliver(), 4);
        CHECK.same("app(4, 3)", desk.app(4, 3), 1);
        desk.step();
        desk.send(5, 5, 0);
        CHECK.same("closed and guarded", desk.deliver(), -1);
    }

    /** A guard stands for the sending app's own parts too: the document makes no exception. */
    private static void guardOfOwnPart() {
        AppDesk desk = new AppDesk();
        desk.draft(4, 1, 0);
        desk.word(Words.END);
        desk.part(3, true, 0, 0);
        desk.part(5, false, 0, 0);
        desk.ask(0);
        desk.declare(0, 1);
        put(desk);
        desk.send(4, 3, 0);
        CHECK.same("its own open part, guarded", desk.deliver(), -1);
        desk.send(4, 5, 0);
        CHECK.same("its own closed part, guarded", desk.deliver(), -1);
        desk.grant(4, 0);
        desk.send(4, 5, 0);
        CHECK.same("its own closed part, held", desk.deliver(), 4);
    }

    private static void guardAtDelivery() {
        AppDesk desk = new AppDesk();
        desk.draft(4, 1, 0);
        desk.word(Words.END);
        desk.part(3, true, 0, 0);
        desk.ask(0);
        desk.declare(0, 1);
        put(desk);
        desk.grant(4, 0);
        desk.send(4, 3, 0);
        desk.revoke(4, 0);
        CHECK.same("held when sent, not when delivered", desk.deliver(), -1);
        desk.send(4, 3, 0);
        desk.grant(4, 0);
        CHECK.same("held when delivered", desk.deliver(), 4);
    }

    private static void sentByCode() {
        AppDesk desk = new AppDesk();
        Words.installPlain(desk, 6, 0, Words.push(9), Words.push(-4), Words.SEND, Words.END);
        Words.installPlain(desk, 3, 9, Words.load(0), Words.load(1), Words.END);
        desk.send(3, 0, 0);
        CHECK.same("deliver()", desk.deliver(), 6);
        CHECK.stepsMany("two words", desk, 6, 2);
        CHECK.same("queued()", desk.queued(), 0);
        CHECK.steps("SEND", desk, 6);
        CHECK.same("queued()", desk.queued(), 1);
        CHECK.same("both are dropped: app(6, 4)", desk.app(6, 4), 0);
        CHECK.same("app(6, 3)", desk.app(6, 3), 3);
        CHECK.same("deliver() what was sent", desk.deliver(), 3);
        CHECK.steps("LOAD 0", desk, 3);
        CHECK.same("the value: app(3, 5)", desk.app(3, 5), -4);
        CHECK.steps("END of app 6", desk, 6);
        CHECK.steps("LOAD 1", desk, 3);
        CHECK.same("the sender: app(3, 5)", desk.app(3, 5), 6);
    }

    private static void sentByCodeToAFullQueue() {
        AppDesk desk = Words.running(6, 0, Words.push(9), Words.push(1), Words.SEND, Words.END);
        CHECK.stepsMany("two words", desk, 6, 2);
        for (int i = 0; i < 8; i++) {
            desk.send(6, 1, i);
        }
        CHECK.steps("SEND, lost", desk, 6);
        CHECK.same("queued()", desk.queued(), 8);
        CHECK.same("it still runs: app(6, 2)", desk.app(6, 2), 1);
        CHECK.same("both are dropped: app(6, 4)", desk.app(6, 4), 0);
        CHECK.same("app(6, 3)", desk.app(6, 3), 3);
    }
}
