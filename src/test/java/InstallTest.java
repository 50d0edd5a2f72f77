/** Promises 9 and 10: what install refuses and takes, and what remove clears away. */
public final class InstallTest {
    private static final Check CHECK = new Check("InstallTest");

    private InstallTest() {
    }

    public static void main(String[] args) {
        incomplete();
        placesOfParts();
        argumentBeforeState();
        otherSignerOrVersion();
        declaredByOther();
        declaredByItself();
        everyPermissionIsLookedAt();
        draftStays();
        installedIsACopy();
        refusalChangesNothing();
        upgradeKeeps();
        upgradeStopsTheApp();
        upgradeKeepsIntents();
        remove();
        removeDropsIntents();
        removeLeavesOthersIntents();
        removeFreesTheName();
        CHECK.end();
    }

    private static void begin(AppDesk desk, int name, int version, int signer) {
        desk.draft(name, version, signer);
        desk.word(Words.END);
        desk.part(0, true, -1, 0);
    }

    private static void incomplete() {
        AppDesk desk = new AppDesk();
        desk.sign();
        CHECK.badArgument("no parts, no words", desk);
        desk.word(Words.END);
        desk.sign();
        CHECK.badArgument("no parts", desk);
        desk.draft(0, 1, 0);
        desk.part(0, true, -1, 0);
        desk.sign();
        CHECK.badArgument("no words", desk);
        desk.word(Words.END);
        CHECK.badArgument("an old seal", desk);
        desk.sign();
        CHECK.installs("all there", desk, 0);
    }

    private static void placesOfParts() {
        for (int place : new int[] {-1, 2, 24, Integer.MIN_VALUE, Integer.MAX_VALUE}) {
            AppDesk desk = new AppDesk();
            begin(desk, 0, 1, 0);
            desk.word(Words.END);
            desk.part(1, true, -1, place);
            desk.sign();
            CHECK.badArgument("2 words, a part at " + place, desk);
        }
        AppDesk desk = new AppDesk();
        begin(desk, 0, 1, 0);
        desk.word(Words.END);
        desk.part(1, true, -1, 1);
        desk.sign();
        CHECK.installs("2 words, a part at 1", desk, 0);
    }

    private static void argumentBeforeState() {
        AppDesk desk = new AppDesk();
        begin(desk, 0, 1, 0);
        desk.sign();
        desk.install();
        CHECK.badState("the same version", desk);
        desk.seal(0);
        CHECK.badArgument("the same version and a wrong seal", desk);
        desk.draft(0, 1, 0);
        desk.word(14);
        desk.part(0, true, -1, 0);
        desk.sign();
        CHECK.badArgument("the same version and code that is not good", desk);
    }

    private static void otherSignerOrVersion() {
        AppDesk desk = new AppDesk();
        begin(desk, 4, 5, 2);
        desk.sign();
        CHECK.installs("version 5", desk, 4);
        int[][] wrong = {{4, 2}, {5, 2}, {1, 2}, {6, 1}, {6, 3}, {6, 0}, {5, 1}};
        for (int[] w : wrong) {
            begin(desk, 4, w[0], w[1]);
            desk.sign();
            CHECK.badState("version " + w[0] + " of signer " + w[1], desk);
        }
        CHECK.same("still app(4, 0)", desk.app(4, 0), 5);
        begin(desk, 4, 6, 2);
        desk.sign();
        CHECK.installs("version 6", desk, 4);
        CHECK.same("app(4, 0)", desk.app(4, 0), 6);
        begin(desk, 4, Integer.MAX_VALUE, 2);
        desk.sign();
        CHECK.installs("the highest version", desk, 4);
        CHECK.badState("the highest version again", desk);
        begin(desk, 3, 1, 1);
        desk.sign();
        CHECK.installs("another name", desk, 3);
    }

    private static void declaredByOther() {
        AppDesk desk = new AppDesk();
        begin(desk, 1, 1, 0);
        desk.declare(7, 0);
        desk.sign();
        desk.install();
        for (int level = 0; level < 3; level++) {
            begin(desk, 2, 1, 0);
            desk.declare(0, 0);
            desk.declare(7, level);
            desk.sign();
            CHECK.badState("7 is declared by app 1", desk);
        }
        begin(desk, 0, 1, 0);
        desk.declare(7, 0);
        desk.sign();
        CHECK.badState("7 is declared by app 1, name 0", desk);
        begin(desk, 2, 1, 0);
        desk.declare(6, 0);
        desk.sign();
        CHECK.installs("6 is free", desk, 2);
        begin(desk, 1, 2, 0);
        desk.declare(6, 0);
        desk.sign();
        CHECK.badState("an upgrade that declares what app 2 does", desk);
        desk.remove(2);
        CHECK.installs("app 2 is gone", desk, 1);
        begin(desk, 2, 1, 0);
        desk.declare(7, 0);
        desk.sign();
        CHECK.installs("app 1 declares 7 no more", desk, 2);
    }

    private static void declaredByItself() {
        AppDesk desk = new AppDesk();
        begin(desk, 1, 1, 0);
        desk.declare(3, 0);
        desk.sign();
        desk.install();
        begin(desk, 1, 2, 0);
        desk.declare(3, 2);
        desk.sign();
        CHECK.installs("the same permission by the same app", desk, 1);
    }

    private static void everyPermissionIsLookedAt() {
        for (int permission = 0; permission < 8; permission++) {
            AppDesk desk = new AppDesk();
            begin(desk, 7, 1, 0);
            desk.declare(permission, 1);
            desk.sign();
            CHECK.installs("declares " + permission, desk, 7);
            begin(desk, 6, 1, 0);
            desk.declare(permission, 1);
            desk.sign();
            CHECK.badState("declares " + permission + " too", desk);
        }
    }

    private static void draftStays() {
        AppDesk desk = new AppDesk();
        begin(desk, 1, 1, 0);
        int seal = desk.sign();
        desk.install();
        CHECK.same("the draft after install: sign()", desk.sign(), seal);
        desk.remove(1);
        CHECK.installs("the draft once more", desk, 1);
    }

    private static void installedIsACopy() {
        AppDesk desk = new AppDesk();
        begin(desk, 1, 1, 0);
        desk.sign();
        desk.install();
        desk.part(1, true, -1, 0);
        desk.ask(0);
        desk.declare(0, 0);
        desk.send(1, 1, 0);
        CHECK.same("a part added to the draft only: deliver()", desk.deliver(), -1);
        CHECK.no("asked by the draft only: grant(1, 0)", desk.grant(1, 0));
        CHECK.no("asked by the draft only: holds(1, 0)", desk.holds(1, 0));
        desk.draft(1, 3, 0);
        CHECK.same("app(1, 0)", desk.app(1, 0), 1);
    }

    private static void refusalChangesNothing() {
        AppDesk desk = Words.running(2, 5, Words.push(3), Words.load(0), Words.KEEP, Words.jump(0));
        CHECK.stepsMany("running", desk, 2, 4);
        desk.send(2, 0, 1);
        CHECK.badState("the same version", desk);
        desk.draft(2, 2, 0);
        CHECK.badArgument("nothing in it", desk);
        CHECK.same("app(2, 0)", desk.app(2, 0), 1);
        CHECK.same("app(2, 2)", desk.app(2, 2), 1);
        CHECK.same("app(2, 3)", desk.app(2, 3), 3);
        CHECK.same("kept(2, 3)", desk.kept(2, 3), 5);
        CHECK.same("queued()", desk.queued(), 1);
        CHECK.same("the draft: sign()", desk.sign(), Words.seal(0, 2, 2, 0));
    }

    private static void upgradeKeeps() {
        AppDesk desk = new AppDesk();
        desk.draft(2, 1, 1);
        Words.code(desk, Words.push(3), Words.load(0), Words.KEEP, Words.END);
        desk.part(0, true, -1, 0);
        desk.ask(1);
        desk.ask(2);
        desk.ask(3);
        desk.sign();
        desk.install();
        desk.send(2, 0, 77);
        desk.deliver();
        CHECK.stepsMany("keeping", desk, 2, 4);
        desk.grant(2, 1);
        desk.grant(2, 2);
        begin(desk, 2, 2, 1);
        desk.ask(2);
        desk.ask(3);
        desk.sign();
        CHECK.installs("the upgrade", desk, 2);
        CHECK.same("kept(2, 3)", desk.kept(2, 3), 77);
        CHECK.same("app(2, 6)", desk.app(2, 6), 1);
        CHECK.no("2 was granted already: grant(2, 2)", desk.grant(2, 2));
        CHECK.no("1 is granted no more: revoke(2, 1)", desk.revoke(2, 1));
        CHECK.no("3 was never granted: revoke(2, 3)", desk.revoke(2, 3));
        begin(desk, 2, 3, 1);
        desk.ask(1);
        desk.sign();
        CHECK.installs("the next upgrade", desk, 2);
        CHECK.no("what was lost stays lost: revoke(2, 1)", desk.revoke(2, 1));
        CHECK.yes("grant(2, 1)", desk.grant(2, 1));
    }

    private static void upgradeStopsTheApp() {
        AppDesk desk = Words.running(2, 5, Words.push(3), Words.jump(0));
        CHECK.stepsMany("running", desk, 2, 2);
        begin(desk, 2, 2, 0);
        desk.sign();
        desk.install();
        CHECK.same("app(2, 2)", desk.app(2, 2), 0);
        CHECK.same("app(2, 3)", desk.app(2, 3), 0);
        CHECK.same("app(2, 4)", desk.app(2, 4), 0);
        CHECK.same("app(2, 5)", desk.app(2, 5), 0);
        CHECK.steps("stopped", desk, -1);
    }

    private static void upgradeKeepsIntents() {
        AppDesk desk = new AppDesk();
        begin(desk, 2, 1, 0);
        desk.sign();
        desk.install();
        desk.send(2, 0, 9);
        begin(desk, 2, 2, 0);
        desk.sign();
        desk.install();
        CHECK.same("queued()", desk.queued(), 1);
        CHECK.same("deliver()", desk.deliver(), 2);
    }

    private static void remove() {
        AppDesk desk = Words.running(2, 5, Words.push(3), Words.load(0), Words.KEEP, Words.jump(0));
        CHECK.stepsMany("running", desk, 2, 4);
        for (int name : new int[] {-1, 8, 0, 1, 3, Integer.MIN_VALUE, Integer.MAX_VALUE}) {
            CHECK.no("remove(" + name + ")", desk.remove(name));
        }
        CHECK.yes("remove(2)", desk.remove(2));
        CHECK.no("remove(2) again", desk.remove(2));
        CHECK.same("app(2, 0)", desk.app(2, 0), -1);
        CHECK.same("app(2, 2)", desk.app(2, 2), -1);
        CHECK.same("kept(2, 3)", desk.kept(2, 3), 0);
        CHECK.steps("removed", desk, -1);
        CHECK.no("send(2, 0, 0)", desk.send(2, 0, 0));
        CHECK.installs("anew", desk, 2);
        CHECK.same("what it kept is lost: kept(2, 3)", desk.kept(2, 3), 0);
        CHECK.same("what it kept is lost: app(2, 6)", desk.app(2, 6), 0);
        CHECK.same("it does not run: app(2, 2)", desk.app(2, 2), 0);
    }

    private static void removeDropsIntents() {
        AppDesk desk = new AppDesk();
        Words.installPlain(desk, 1, 1, Words.jump(0));
        Words.installPlain(desk, 2, 2, Words.load(0), Words.jump(0));
        int[] senders = {1, 2, 1, 1, 2, 1, 2, 1};
        for (int i = 0; i < 8; i++) {
            desk.send(senders[i], i == 6 ? 1 : 2, 100 + i);
        }
        CHECK.yes("remove(1)", desk.remove(1));
        CHECK.same("queued()", desk.queued(), 3);
        CHECK.same("deliver() the first of app 2", desk.deliver(), 2);
        CHECK.steps("load", desk, 2);
        CHECK.same("its value", desk.app(2, 5), 101);
        CHECK.same("deliver(): app 2 runs", desk.deliver(), -1);
        CHECK.same("queued()", desk.queued(), 1);
        CHECK.same("deliver(): app 1 is gone", desk.deliver(), -1);
        CHECK.same("queued()", desk.queued(), 0);
    }

    private static void removeLeavesOthersIntents() {
        AppDesk desk = new AppDesk();
        Words.installPlain(desk, 1, 1, Words.load(0), Words.jump(0));
        Words.installPlain(desk, 2, 2, Words.END);
        desk.send(1, 1, 50);
        desk.send(2, 1, 51);
        desk.send(1, 1, 52);
        desk.remove(2);
        CHECK.same("queued()", desk.queued(), 2);
        CHECK.same("deliver() the first", desk.deliver(), 1);
        CHECK.steps("load", desk, 1);
        CHECK.same("its value", desk.app(1, 5), 50);
        CHECK.no("a name without an app: remove(2)", desk.remove(2));
        CHECK.same("queued()", desk.queued(), 1);
    }

    private static void removeFreesTheName() {
        AppDesk desk = new AppDesk();
        begin(desk, 1, 5, 0);
        desk.ask(0);
        desk.sign();
        desk.install();
        desk.grant(1, 0);
        desk.remove(1);
        begin(desk, 1, 1, 3);
        desk.ask(0);
        desk.sign();
        CHECK.installs("another signer, a lower version", desk, 1);
        CHECK.no("what was granted is lost: revoke(1, 0)", desk.revoke(1, 0));
        CHECK.yes("grant(1, 0)", desk.grant(1, 0));
    }
}
