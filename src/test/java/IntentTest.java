/** Promises 13, 14 and 19: send, deliver and queued. */
public final class IntentTest {
    private static final int MIN = Integer.MIN_VALUE;
    private static final int MAX = Integer.MAX_VALUE;
    private static final Check CHECK = new Check("IntentTest");

    private IntentTest() {
    }

    public static void main(String[] args) {
        sending();
        delivering();
        receiving();
        sendingByCode();
        CHECK.end();
    }

    private static void sending() {
        CHECK.about("13: The user sends an intent in the name of an app: true", IntentTest::sendEach);
        CHECK.about("13: False if none is installed under the name", IntentTest::sendByNobody);
        CHECK.about("13: there is no such action", IntentTest::sendNoSuchAction);
        CHECK.about("13: or 8 are in the queue", IntentTest::sendToAFullQueue);
        CHECK.about("19: How many intents are in the queue", IntentTest::queuedFromEmptyToFull);
    }

    private static void delivering() {
        CHECK.about("14: Delivers the first intent: the name of the app that runs then", IntentTest::deliverInOrder);
        CHECK.about("14: NONE if there is none", IntentTest::deliverNothing);
        CHECK.about("14: or it is lost", IntentTest::deliverLost);
        CHECK.about("it leaves the queue", IntentTest::leavesTheQueue);
        CHECK.about("a QUEUE of at most 8, in order, again and again", IntentTest::queueAgainAndAgain);
        CHECK.about("That app runs then, from the part's place on, with an empty stack", IntentTest::howARunBegins);
        CHECK.about("local 0 is the value, local 1 the sender's name, the others are 0", IntentTest::localsAtTheBeginning);
    }

    private static void receiving() {
        CHECK.about("it goes to the first part, by apps' names", IntentTest::firstByName);
        CHECK.about("and the order of parts", IntentTest::firstByPart);
        CHECK.about("with that action", IntentTest::withThatAction);
        CHECK.about("of an app that does not run", IntentTest::notToOneThatRuns);
        CHECK.about("that is open", IntentTest::openParts);
        CHECK.about("or of the sending app", IntentTest::ownParts);
        CHECK.about("and has no guard or one that the sending app holds", IntentTest::guards);
        CHECK.about("one that the sending app holds: for its own parts too", IntentTest::guardOfOwnPart);
        CHECK.about("one that the sending app holds: the sending app, not the one that gets it", IntentTest::guardOfSender);
        CHECK.about("one that the sending app holds: when it is delivered", IntentTest::guardAtDelivery);
        CHECK.about("a part that may not have it is passed by", IntentTest::passedBy);
    }

    private static void sendingByCode() {
        CHECK.about("12 SEND: are dropped, and an intent of this app is sent", IntentTest::sentByCode);
        CHECK.about("one that is sent when 8 are there is lost", IntentTest::sentByCodeToAFullQueue);
        CHECK.about("one that is sent when 7 are there is not lost", IntentTest::sentByCodeAsTheEighth);
    }

    private static void put(AppDesk desk) {
        desk.sign();
        desk.install();
    }

    private static void sendEach() {
        for (int name : new int[] {0, 3, 7}) {
            AppDesk desk = new AppDesk();
            Words.installPlain(desk, name, 0, Words.END);
            CHECK.yes("send(" + name + ", 0, MIN)", desk.send(name, 0, MIN));
            CHECK.yes("send(" + name + ", 9, MAX)", desk.send(name, 9, MAX));
            CHECK.yes("send(" + name + ", 5, 0)", desk.send(name, 5, 0));
            CHECK.same("queued()", desk.queued(), 3);
        }
    }

    private static void sendByNobody() {
        Twins.stayAlike(CHECK, "sending by nobody", Twins::busyDesk, desk -> {
            for (int name : new int[] {-1, 8, 9, 32, 33, 0, 2, 5, 7, MIN, MAX}) {
                CHECK.no("send(" + name + ", 1, 0)", desk.send(name, 1, 0));
            }
        });
        AppDesk desk = Words.running(3, 0, Words.END);
        desk.remove(3);
        CHECK.no("removed: send(3, 0, 0)", desk.send(3, 0, 0));
        CHECK.same("queued()", desk.queued(), 0);
    }

    private static void sendNoSuchAction() {
        Twins.stayAlike(CHECK, "sending no such action", Twins::busyDesk, desk -> {
            for (int action : new int[] {-1, 10, 11, 32, MIN, MAX}) {
                CHECK.no("send(1, " + action + ", 0)", desk.send(1, action, 0));
            }
        });
    }

    private static AppDesk fullDesk() {
        AppDesk desk = Twins.busyDesk();
        for (int i = 0; i < 5; i++) {
            desk.send(1, 2, 80 + i);
        }
        return desk;
    }

    private static void sendToAFullQueue() {
        Twins.stayAlike(CHECK, "sending to a full queue", IntentTest::fullDesk, desk -> {
            CHECK.same("queued()", desk.queued(), 8);
            CHECK.no("send(1, 2, 90)", desk.send(1, 2, 90));
            CHECK.no("send(6, 4, 91)", desk.send(6, 4, 91));
            CHECK.same("queued()", desk.queued(), 8);
        });
        AppDesk desk = fullDesk();
        desk.deliver();
        CHECK.yes("7 are in the queue: send(1, 2, 90)", desk.send(1, 2, 90));
        CHECK.no("8 are in the queue: send(1, 2, 91)", desk.send(1, 2, 91));
    }

    private static void queuedFromEmptyToFull() {
        AppDesk desk = new AppDesk();
        Words.installPlain(desk, 3, 0, Words.END);
        CHECK.same("queued()", desk.queued(), 0);
        for (int i = 1; i <= 8; i++) {
            CHECK.yes("send " + i, desk.send(3, 5, i));
            CHECK.same("queued()", desk.queued(), i);
        }
        CHECK.no("send 9", desk.send(3, 5, 9));
        CHECK.same("queued()", desk.queued(), 8);
        for (int i = 7; i >= 0; i--) {
            desk.deliver();
            CHECK.same("queued()", desk.queued(), i);
        }
        desk.deliver();
        CHECK.same("queued()", desk.queued(), 0);
    }

    private static void deliverInOrder() {
        AppDesk desk = new AppDesk();
        Words.installPlain(desk, 1, 1, Words.load(0), Words.END);
        Words.installPlain(desk, 2, 2, Words.load(0), Words.END);
        int[] due = {2, 1, 2, 1, 1, 2, 2, 1};
        for (int i = 0; i < 8; i++) {
            desk.send(3 - due[i], due[i], 21 + i);
        }
        for (int i = 0; i < 8; i++) {
            CHECK.same("deliver() " + i, desk.deliver(), due[i]);
            CHECK.steps("LOAD 0", desk, due[i]);
            CHECK.same("the value", desk.app(due[i], 5), 21 + i);
            CHECK.steps("END", desk, due[i]);
        }
    }

    private static AppDesk withoutIntents() {
        AppDesk desk = Twins.busyDesk();
        for (int i = 0; i < 3; i++) {
            desk.deliver();
        }
        return desk;
    }

    private static void deliverNothing() {
        CHECK.same("nothing installed: deliver()", new AppDesk().deliver(), -1);
        Twins.stayAlike(CHECK, "delivering from an empty queue", IntentTest::withoutIntents, desk -> {
            CHECK.same("deliver()", desk.deliver(), -1);
            CHECK.same("deliver() again", desk.deliver(), -1);
            CHECK.same("queued()", desk.queued(), 0);
        });
    }

    private static void deliverLost() {
        AppDesk desk = new AppDesk();
        Words.installPlain(desk, 3, 0, Words.END);
        desk.send(3, 9, 1);
        CHECK.same("no part has the action: deliver()", desk.deliver(), -1);
        CHECK.same("it does not come back: deliver()", desk.deliver(), -1);
        CHECK.same("nobody runs: app(3, 2)", desk.app(3, 2), 0);
    }

    private static void leavesTheQueue() {
        AppDesk desk = new AppDesk();
        Words.installPlain(desk, 3, 0, Words.END);
        desk.send(3, 0, 1);
        desk.send(3, 9, 2);
        desk.send(3, 9, 3);
        CHECK.same("deliver()", desk.deliver(), 3);
        CHECK.same("one that was delivered: queued()", desk.queued(), 2);
        CHECK.same("deliver()", desk.deliver(), -1);
        CHECK.same("one that was lost: queued()", desk.queued(), 1);
    }

    /** More intents than the queue has room for, in all, so that its beginning goes round more than once. */
    private static void queueAgainAndAgain() {
        AppDesk desk = new AppDesk();
        Words.installPlain(desk, 4, 4, Words.load(0), Words.END);
        for (int value = 0; value < 7; value++) {
            desk.send(4, 4, value);
        }
        for (int value = 0; value < 30; value++) {
            CHECK.yes("send", desk.send(4, 4, value + 7));
            CHECK.same("queued()", desk.queued(), 8);
            CHECK.same("deliver()", desk.deliver(), 4);
            CHECK.steps("LOAD 0", desk, 4);
            CHECK.same("app(4, 5)", desk.app(4, 5), value);
            CHECK.steps("END", desk, 4);
        }
    }

    private static void howARunBegins() {
        AppDesk desk = new AppDesk();
        desk.draft(2, 1, 0);
        Words.code(desk, Words.END, Words.END, Words.push(8), Words.jump(0));
        desk.part(4, true, -1, 2);
        put(desk);
        desk.send(2, 4, 7);
        CHECK.same("deliver()", desk.deliver(), 2);
        CHECK.same("app(2, 2)", desk.app(2, 2), 1);
        CHECK.same("app(2, 3)", desk.app(2, 3), 2);
        CHECK.same("app(2, 4)", desk.app(2, 4), 0);
        CHECK.same("app(2, 5)", desk.app(2, 5), 0);
        runsAnewWithAnEmptyStack();
    }

    /** The run before ended with something on its stack. */
    private static void runsAnewWithAnEmptyStack() {
        AppDesk desk = Words.running(2, 7, Words.push(8), Words.push(9), Words.END);
        CHECK.stepsMany("to the end", desk, 2, 3);
        desk.send(2, 0, 7);
        CHECK.same("deliver() again", desk.deliver(), 2);
        CHECK.same("app(2, 3)", desk.app(2, 3), 0);
        CHECK.same("app(2, 4)", desk.app(2, 4), 0);
        CHECK.same("app(2, 5)", desk.app(2, 5), 0);
    }

    private static void localsAtTheBeginning() {
        AppDesk desk = new AppDesk();
        Words.installPlain(desk, 6, 9, Words.END);
        Words.installPlain(desk, 2, 4, Words.load(0), Words.load(1), Words.load(2), Words.load(3), Words.push(7),
            Words.COPY, Words.store(2), Words.store(3), Words.END);
        for (int round = 0; round < 2; round++) {
            desk.send(6, 4, -55 - round);
            CHECK.same("deliver()", desk.deliver(), 2);
            for (int local : new int[] {-55 - round, 6, 0, 0}) {
                CHECK.steps("LOAD", desk, 2);
                CHECK.same("a local", desk.app(2, 5), local);
            }
            CHECK.stepsMany("to the end", desk, 2, 5);
        }
    }

    private static void firstByName() {
        AppDesk desk = new AppDesk();
        for (int name : new int[] {7, 4, 0, 2}) {
            Words.installPlain(desk, name, 3, Words.jump(0));
        }
        for (int i = 0; i < 5; i++) {
            desk.send(4, 3, 0);
        }
        for (int name : new int[] {0, 2, 4, 7, -1}) {
            CHECK.same("deliver()", desk.deliver(), name);
        }
    }

    private static void firstByPart() {
        AppDesk desk = new AppDesk();
        desk.draft(4, 1, 0);
        Words.code(desk, Words.END, Words.END, Words.END);
        desk.part(2, true, -1, 0);
        desk.part(3, true, -1, 2);
        desk.part(3, true, -1, 1);
        put(desk);
        desk.send(4, 3, 0);
        CHECK.same("deliver()", desk.deliver(), 4);
        CHECK.same("the part that was added first: app(4, 3)", desk.app(4, 3), 2);
    }

    private static void withThatAction() {
        AppDesk desk = new AppDesk();
        desk.draft(4, 1, 0);
        Words.code(desk, Words.END, Words.END, Words.END, Words.END);
        for (int part = 0; part < 4; part++) {
            desk.part(3 * part, true, -1, part);
        }
        put(desk);
        for (int action = 0; action < 10; action++) {
            desk.send(4, action, 0);
            CHECK.same("action " + action + ": deliver()", desk.deliver(), action % 3 == 0 ? 4 : -1);
            CHECK.same("app(4, 3)", desk.app(4, 3), action % 3 == 0 ? action / 3 : 0);
            Check.stepping(desk);
        }
    }

    private static void notToOneThatRuns() {
        AppDesk desk = new AppDesk();
        Words.installPlain(desk, 4, 3, Words.load(0), Words.END);
        desk.send(4, 3, 1);
        desk.send(4, 3, 2);
        desk.send(4, 3, 3);
        CHECK.same("deliver()", desk.deliver(), 4);
        CHECK.steps("LOAD 0", desk, 4);
        CHECK.same("it runs: deliver()", desk.deliver(), -1);
        CHECK.same("and goes on as it was: app(4, 3)", desk.app(4, 3), 1);
        CHECK.same("and goes on as it was: app(4, 5)", desk.app(4, 5), 1);
        CHECK.steps("END", desk, 4);
        CHECK.same("it does not run: deliver()", desk.deliver(), 4);
        CHECK.steps("LOAD 0", desk, 4);
        CHECK.same("the third intent's value", desk.app(4, 5), 3);
    }

    /** App 4 has a closed part at 1, an open one at 0 for action 3, and a closed one for action 6; app 5 has none. */
    private static AppDesk withClosedParts() {
        AppDesk desk = new AppDesk();
        desk.draft(4, 1, 0);
        Words.code(desk, Words.END, Words.END);
        desk.part(3, false, -1, 1);
        desk.part(3, true, -1, 0);
        desk.part(6, false, -1, 0);
        put(desk);
        Words.installPlain(desk, 5, 1, Words.END);
        return desk;
    }

    private static void openParts() {
        AppDesk desk = withClosedParts();
        desk.send(5, 6, 0);
        CHECK.same("closed to others", desk.deliver(), -1);
        desk.send(5, 3, 0);
        CHECK.same("the open part behind the closed one", desk.deliver(), 4);
        CHECK.same("app(4, 3)", desk.app(4, 3), 0);
    }

    private static void ownParts() {
        AppDesk desk = withClosedParts();
        desk.send(4, 6, 0);
        CHECK.same("closed, but its own", desk.deliver(), 4);
        desk.step();
        desk.send(4, 3, 0);
        CHECK.same("the closed part comes first for itself", desk.deliver(), 4);
        CHECK.same("app(4, 3)", desk.app(4, 3), 1);
    }

    private static void guards() {
        for (int guard = 0; guard < 8; guard++) {
            AppDesk desk = new AppDesk();
            desk.draft(4, 1, 0);
            Words.code(desk, Words.END, Words.END);
            desk.part(3, true, guard, 1);
            desk.part(5, false, guard, 0);
            desk.declare(guard, 1);
            put(desk);
            desk.draft(5, 1, 0);
            desk.word(Words.END);
            desk.part(9, true, -1, 0);
            desk.ask(guard);
            put(desk);
            desk.send(5, 3, 0);
            CHECK.same("guard " + guard + " is not held", desk.deliver(), -1);
            desk.grant(5, guard);
            desk.send(5, 3, 0);
            CHECK.same("guard " + guard + " is held", desk.deliver(), 4);
            CHECK.same("app(4, 3)", desk.app(4, 3), 1);
            desk.step();
            desk.send(5, 5, 0);
            CHECK.same("guard " + guard + " is held, but the part is closed", desk.deliver(), -1);
        }
    }

    /** App 4 asks for 0 and declares it, and has an open and a closed part, both guarded by it. */
    private static AppDesk guardedByItsOwn() {
        AppDesk desk = new AppDesk();
        desk.draft(4, 1, 0);
        desk.word(Words.END);
        desk.part(3, true, 0, 0);
        desk.part(5, false, 0, 0);
        desk.ask(0);
        desk.declare(0, 1);
        put(desk);
        return desk;
    }

    private static void guardOfOwnPart() {
        AppDesk desk = guardedByItsOwn();
        for (int action : new int[] {3, 5}) {
            desk.send(4, action, 0);
            CHECK.same("not held, action " + action, desk.deliver(), -1);
        }
        desk.grant(4, 0);
        for (int action : new int[] {3, 5}) {
            desk.send(4, action, 0);
            CHECK.same("held, action " + action, desk.deliver(), 4);
            desk.step();
        }
    }

    private static void guardOfSender() {
        AppDesk desk = guardedByItsOwn();
        desk.draft(2, 1, 0);
        desk.word(Words.END);
        desk.part(1, true, -1, 0);
        desk.ask(0);
        put(desk);
        desk.grant(4, 0);
        desk.send(2, 3, 0);
        CHECK.same("app 4 holds it, app 2 sends", desk.deliver(), -1);
        desk.revoke(4, 0);
        desk.grant(2, 0);
        desk.send(2, 3, 0);
        CHECK.same("app 2 holds it and sends", desk.deliver(), 4);
    }

    private static void guardAtDelivery() {
        AppDesk desk = guardedByItsOwn();
        desk.grant(4, 0);
        desk.send(4, 3, 0);
        desk.revoke(4, 0);
        CHECK.same("held when sent, not when delivered", desk.deliver(), -1);
        desk.send(4, 3, 0);
        desk.grant(4, 0);
        CHECK.same("held when delivered, not when sent", desk.deliver(), 4);
    }

    private static void passedBy() {
        AppDesk desk = new AppDesk();
        desk.draft(1, 1, 0);
        Words.code(desk, Words.END, Words.END, Words.END);
        desk.part(3, true, 7, 0);
        desk.part(3, false, -1, 1);
        put(desk);
        Words.installPlain(desk, 6, 3, Words.END);
        desk.send(6, 3, 0);
        CHECK.same("guarded and closed parts of app 1", desk.deliver(), 6);
        desk.step();
        desk.draft(1, 2, 0);
        Words.code(desk, Words.END, Words.END, Words.END);
        desk.part(3, true, 7, 0);
        desk.part(3, false, -1, 1);
        desk.part(3, true, -1, 2);
        put(desk);
        desk.send(6, 3, 0);
        CHECK.same("a third part of app 1", desk.deliver(), 1);
        CHECK.same("app(1, 3)", desk.app(1, 3), 2);
    }

    private static void sentByCode() {
        AppDesk desk = new AppDesk();
        Words.installPlain(desk, 6, 0, Words.push(9), Words.push(-4), Words.SEND, Words.END);
        Words.installPlain(desk, 3, 9, Words.load(0), Words.load(1), Words.END);
        desk.send(3, 0, 0);
        CHECK.same("deliver()", desk.deliver(), 6);
        CHECK.stepsMany("two words", desk, 6, 2);
        CHECK.same("queued()", desk.queued(), 0);
        CHECK.steps("SEND", desk, 6);
        CHECK.same("queued()", desk.queued(), 1);
        CHECK.same("both are dropped: app(6, 4)", desk.app(6, 4), 0);
        CHECK.same("app(6, 3)", desk.app(6, 3), 3);
        CHECK.same("deliver() what was sent", desk.deliver(), 3);
        CHECK.steps("LOAD 0", desk, 3);
        CHECK.same("the value: app(3, 5)", desk.app(3, 5), -4);
        CHECK.steps("END of app 6", desk, 6);
        CHECK.steps("LOAD 1", desk, 3);
        CHECK.same("the sender: app(3, 5)", desk.app(3, 5), 6);
    }

    /** App 6 stands before its SEND of action 9, value 1, with intents of action 1 in the queue. */
    private static AppDesk beforeSend(int queued) {
        AppDesk desk = Words.running(6, 0, Words.push(9), Words.push(1), Words.SEND, Words.END);
        CHECK.stepsMany("two words", desk, 6, 2);
        for (int i = 0; i < queued; i++) {
            desk.send(6, 1, i);
        }
        return desk;
    }

    private static void sentByCodeToAFullQueue() {
        AppDesk desk = beforeSend(8);
        CHECK.steps("SEND, lost", desk, 6);
        CHECK.same("queued()", desk.queued(), 8);
        CHECK.same("it still runs: app(6, 2)", desk.app(6, 2), 1);
        CHECK.same("both are dropped: app(6, 4)", desk.app(6, 4), 0);
        CHECK.same("app(6, 3)", desk.app(6, 3), 3);
        Words.installPlain(desk, 3, 9, Words.END);
        for (int i = 0; i < 9; i++) {
            CHECK.same("it never comes: deliver()", desk.deliver(), -1);
        }
    }

    private static void sentByCodeAsTheEighth() {
        AppDesk desk = beforeSend(7);
        CHECK.steps("SEND", desk, 6);
        CHECK.same("queued()", desk.queued(), 8);
        Words.installPlain(desk, 3, 9, Words.END);
        for (int i = 0; i < 7; i++) {
            CHECK.same("those before it: deliver()", desk.deliver(), -1);
        }
        CHECK.same("it comes last: deliver()", desk.deliver(), 3);
    }
}
