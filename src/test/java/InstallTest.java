/** Promises 9 and 10: what install refuses and takes, and what remove clears away. */
public final class InstallTest {
    private static final int MIN = Integer.MIN_VALUE;
    private static final int MAX = Integer.MAX_VALUE;
    private static final Check CHECK = new Check("InstallTest");

    private InstallTest() {
    }

    public static void main(String[] args) {
        badArguments();
        badStates();
        installing();
        removing();
        CHECK.end();
    }

    private static void badArguments() {
        CHECK.about("refused by IllegalArgumentException if it has no parts", InstallTest::noParts);
        CHECK.about("or no words", InstallTest::noWords);
        CHECK.about("a part begins outside the code", InstallTest::partsOutside);
        CHECK.about("the seal is not that of its signer", InstallTest::wrongSeals);
        CHECK.about("the seal is not that of its signer: the draft was changed after it", InstallTest::oldSeals);
        CHECK.about("or the code is not good", InstallTest::badCode);
        CHECK.about("What throws changes nothing: IllegalArgumentException", InstallTest::badArgumentChangesNothing);
        CHECK.about("What throws changes nothing: the draft's seal", InstallTest::refusedSealStays);
    }

    private static void badStates() {
        CHECK.about("then by IllegalStateException", InstallTest::argumentBeforeState);
        CHECK.about("if a package of that name is installed with another signer", InstallTest::otherSigner);
        CHECK.about("or with the same version", InstallTest::sameVersion);
        CHECK.about("or a higher one", InstallTest::higherVersion);
        CHECK.about("or a permission that it declares is declared by another installed app", InstallTest::declaredByOther);
        CHECK.about("declared by another installed app: not by itself", InstallTest::declaredByItself);
        CHECK.about("declared by another installed app: not by one that is gone", InstallTest::declaredNoMore);
        CHECK.about("What throws changes nothing: IllegalStateException", InstallTest::badStateChangesNothing);
    }

    private static void installing() {
        CHECK.about("9: Installs the draft: its name", InstallTest::allNames);
        CHECK.about("at most 4 PARTS, at most 24 WORDS", InstallTest::fullPackage);
        CHECK.about("under each at most one package is installed", InstallTest::nothingOfTheOlder);
        CHECK.about("(the draft stays as it is)", InstallTest::draftStays);
        CHECK.about("what is installed does not change with the draft", InstallTest::installedIsACopy);
        CHECK.about("what an older one of the name kept stays", InstallTest::keptStays);
        CHECK.about("and was granted stays", InstallTest::grantedStays);
        CHECK.about("but what it no longer asks for is granted no more", InstallTest::grantedNoMore);
        CHECK.about("the app does not run", InstallTest::doesNotRun);
        CHECK.about("intents of an older one are not named, so they stay", InstallTest::intentsStay);
    }

    private static void removing() {
        CHECK.about("10: Removes an app: true", InstallTest::removed);
        CHECK.about("10: false if none is installed under the name", InstallTest::removeRefused);
        CHECK.about("An app that is REMOVED loses what it kept", InstallTest::removedKeepsNothing);
        CHECK.about("and was granted", InstallTest::removedHasNoGrants);
        CHECK.about("does not run", InstallTest::removedDoesNotRun);
        CHECK.about("and intents that it sent are gone", InstallTest::removedSentNothing);
        CHECK.about("intents that it sent are gone: all 8", InstallTest::removedSentAll);
        CHECK.about("intents that it sent are gone: not those of others", InstallTest::othersIntentsStay);
        CHECK.about("the name is free for any signer and version", InstallTest::removedFreesTheName);
    }

    private static void begin(AppDesk desk, int name, int version, int signer) {
        desk.draft(name, version, signer);
        desk.word(Words.END);
        desk.part(0, true, -1, 0);
    }

    private static AppDesk with(int name, int version, int signer) {
        AppDesk desk = new AppDesk();
        begin(desk, name, version, signer);
        desk.sign();
        desk.install();
        return desk;
    }

    private static void noParts() {
        AppDesk desk = new AppDesk();
        desk.word(Words.END);
        desk.sign();
        CHECK.badArgument("a word only", desk);
        desk.part(0, true, -1, 0);
        desk.sign();
        CHECK.installs("a part too", desk, 0);
    }

    private static void noWords() {
        AppDesk desk = new AppDesk();
        desk.sign();
        CHECK.badArgument("no parts and no words", desk);
        desk.part(0, true, -1, 0);
        desk.sign();
        CHECK.badArgument("a part only", desk);
        desk.word(Words.END);
        desk.sign();
        CHECK.installs("a word too", desk, 0);
    }

    private static void partsOutside() {
        for (int place : new int[] {-1, 2, 3, 23, 24, 32, MIN, MAX}) {
            for (int wrong = 0; wrong < 4; wrong++) {
                CHECK.badArgument("2 words, part " + (wrong + 1) + " at " + place, withPartAt(wrong, place));
            }
        }
        for (int place : new int[] {0, 1}) {
            for (int part = 0; part < 4; part++) {
                CHECK.installs("2 words, part " + (part + 1) + " at " + place, withPartAt(part, place), 0);
            }
        }
    }

    private static AppDesk withPartAt(int which, int place) {
        AppDesk desk = new AppDesk();
        Words.code(desk, Words.END, Words.END);
        for (int part = 0; part < 4; part++) {
            desk.part(part, true, -1, part == which ? place : 0);
        }
        desk.sign();
        return desk;
    }

    private static void wrongSeals() {
        AppDesk desk = new AppDesk();
        begin(desk, 4, 3, 1);
        CHECK.badArgument("never signed", desk);
        int right = desk.sign();
        for (int bit = 0; bit < 32; bit++) {
            desk.seal(right ^ 1 << bit);
            CHECK.badArgument("bit " + bit + " is wrong", desk);
        }
        for (int signer : new int[] {0, 2, 3}) {
            desk.seal(Words.seal(signer, 4, 3, 0, 0, 1, -1, 0, 0));
            CHECK.badArgument("the seal of signer " + signer, desk);
        }
        desk.seal(Words.mix(4, 3, 0, 0, 1, -1, 0, 0));
        CHECK.badArgument("the digest alone", desk);
        desk.seal(right);
        CHECK.installs("the right seal", desk, 4);
    }

    private static void oldSeals() {
        for (int change = 0; change < 5; change++) {
            AppDesk desk = new AppDesk();
            begin(desk, 4, 3, 1);
            desk.sign();
            boolean changed = switch (change) {
                case 0 -> desk.word(Words.END);
                case 1 -> desk.part(1, true, -1, 0);
                case 2 -> desk.ask(7);
                case 3 -> desk.declare(7, 0);
                default -> desk.draft(4, 3, 1) && desk.word(Words.END) && desk.part(0, true, -1, 0);
            };
            CHECK.yes("change " + change, changed);
            CHECK.badArgument("change " + change, desk);
            desk.sign();
            CHECK.installs("change " + change + ", signed anew", desk, 4);
        }
    }

    private static void badCode() {
        AppDesk desk = new AppDesk();
        desk.part(0, true, -1, 0);
        desk.word(14);
        desk.sign();
        CHECK.badArgument("a word that is no operation", desk);
        desk.draft(0, 1, 0);
        desk.part(0, true, -1, 0);
        desk.word(Words.DROP);
        desk.word(Words.END);
        desk.sign();
        CHECK.badArgument("DROP of nothing", desk);
    }

    private static void badArgumentChangesNothing() {
        Twins.stayAlike(CHECK, "a wrong seal", () -> changed(Twins.busyDesk(), 0),
            desk -> CHECK.badArgument("a wrong seal", desk));
        Twins.stayAlike(CHECK, "a part outside", () -> changed(Twins.busyDesk(), 1),
            desk -> CHECK.badArgument("a part outside", desk));
        Twins.stayAlike(CHECK, "code that is not good", () -> changed(Twins.busyDesk(), 2),
            desk -> CHECK.badArgument("code that is not good", desk));
        Twins.stayAlike(CHECK, "an empty draft", () -> changed(Twins.busyDesk(), 3),
            desk -> CHECK.badArgument("an empty draft", desk));
        Twins.stayAlike(CHECK, "an upgrade of an app that runs, not signed", () -> changed(Twins.busyDesk(), 4),
            desk -> CHECK.badArgument("an upgrade of an app that runs, not signed", desk));
    }

    private static AppDesk changed(AppDesk desk, int how) {
        switch (how) {
            case 0 -> desk.seal(desk.sign() + 1);
            case 1 -> {
                desk.part(6, true, -1, 2);
                desk.sign();
            }
            case 2 -> {
                desk.part(6, true, -1, 1);
                desk.sign();
            }
            case 3 -> desk.draft(6, 2, 0);
            default -> begin(desk, 1, 4, 0);
        }
        return desk;
    }

    /** The seal is that of a draft with one word more, so it is wrong first and right afterwards. */
    private static void refusedSealStays() {
        AppDesk desk = new AppDesk();
        begin(desk, 4, 3, 1);
        desk.seal(Words.seal(1, 4, 3, 0, 0, 1, -1, 0, Words.END, Words.END));
        CHECK.badArgument("a word is missing", desk);
        desk.word(Words.END);
        CHECK.installs("with that word", desk, 4);
    }

    private static void argumentBeforeState() {
        AppDesk desk = with(0, 2, 1);
        desk.draft(0, 2, 1);
        desk.sign();
        CHECK.badArgument("the same version without parts and words", desk);
        desk.word(Words.END);
        desk.part(0, true, -1, 1);
        desk.sign();
        CHECK.badArgument("the same version, a part outside", desk);
        begin(desk, 0, 1, 1);
        CHECK.badArgument("a lower version, not signed", desk);
        begin(desk, 0, 3, 2);
        CHECK.badArgument("another signer, not signed", desk);
        desk.word(Words.END);
        desk.part(0, true, -1, 5);
        desk.sign();
        CHECK.badArgument("another signer, a part outside", desk);
        desk.draft(0, 2, 1);
        desk.word(15);
        desk.part(0, true, -1, 0);
        desk.sign();
        CHECK.badArgument("the same version, code that is not good", desk);
        begin(desk, 0, 2, 1);
        desk.sign();
        CHECK.badState("the same version alone", desk);
    }

    private static void otherSigner() {
        for (int signer = 0; signer < 4; signer++) {
            AppDesk desk = with(4, 5, 2);
            for (int version : new int[] {1, 5, 6, MAX}) {
                begin(desk, 4, version, signer);
                desk.sign();
                if (signer == 2 && version > 5) {
                    CHECK.installs("version " + version + " of the same signer", desk, 4);
                } else {
                    CHECK.badState("version " + version + " of signer " + signer, desk);
                }
            }
        }
        AppDesk desk = with(4, 5, 2);
        begin(desk, 3, 1, 1);
        desk.sign();
        CHECK.installs("another signer under another name", desk, 3);
    }

    private static void sameVersion() {
        for (int version : new int[] {1, 2, MAX}) {
            AppDesk desk = with(4, version, 2);
            CHECK.badState("the very same draft, version " + version, desk);
            desk.part(1, true, -1, 0);
            desk.sign();
            CHECK.badState("other contents, version " + version, desk);
        }
    }

    private static void higherVersion() {
        AppDesk desk = with(4, MAX, 2);
        for (int version : new int[] {1, 2, MAX - 1}) {
            begin(desk, 4, version, 2);
            desk.sign();
            CHECK.badState("version " + version + ", MAX is installed", desk);
        }
        desk = with(4, 2, 2);
        begin(desk, 4, 1, 2);
        desk.sign();
        CHECK.badState("version 1, 2 is installed", desk);
        CHECK.same("app(4, 0)", desk.app(4, 0), 2);
        begin(desk, 4, 3, 2);
        desk.sign();
        CHECK.installs("version 3, 2 is installed", desk, 4);
        CHECK.same("app(4, 0)", desk.app(4, 0), 3);
    }

    private static void declaredByOther() {
        for (int permission = 0; permission < 8; permission++) {
            AppDesk desk = declaring(permission, 4, 1);
            for (int name : new int[] {0, 3, 5, 7}) {
                for (int level = 0; level < 3; level++) {
                    begin(desk, name, 1, 1);
                    desk.declare(permission, level);
                    desk.sign();
                    CHECK.badState(permission + " by app " + name + " with level " + level, desk);
                }
            }
            begin(desk, 7, 1, 1);
            desk.ask(permission);
            for (int other = 0; other < 8; other++) {
                CHECK.same("declare(" + other + ", 0)", other == permission || desk.declare(other, 0) ? 1 : 0, 1);
            }
            desk.sign();
            CHECK.installs("asking for " + permission + " and declaring all others", desk, 7);
        }
    }

    private static AppDesk declaring(int permission, int name, int signer) {
        AppDesk desk = new AppDesk();
        begin(desk, name, 1, signer);
        desk.declare(permission, 1);
        desk.sign();
        desk.install();
        return desk;
    }

    private static void declaredByItself() {
        AppDesk desk = declaring(7, 4, 1);
        begin(desk, 4, 2, 1);
        desk.declare(7, 2);
        desk.declare(0, 2);
        desk.sign();
        CHECK.installs("the same and one more", desk, 4);
        begin(desk, 5, 1, 1);
        desk.declare(6, 0);
        desk.sign();
        CHECK.installs("another app", desk, 5);
        begin(desk, 4, 3, 1);
        desk.declare(6, 2);
        desk.declare(7, 2);
        desk.sign();
        CHECK.badState("its own and that of app 5", desk);
    }

    private static void declaredNoMore() {
        AppDesk desk = declaring(7, 4, 1);
        begin(desk, 4, 2, 1);
        desk.sign();
        desk.install();
        begin(desk, 5, 1, 1);
        desk.declare(7, 0);
        desk.sign();
        CHECK.installs("the upgrade of app 4 does not declare it", desk, 5);
        desk.remove(5);
        begin(desk, 2, 1, 3);
        desk.declare(7, 0);
        desk.sign();
        CHECK.installs("app 5 is removed", desk, 2);
    }

    private static void badStateChangesNothing() {
        Twins.stayAlike(CHECK, "a version that is there", () -> refusedByState(6, 1, 0, 4),
            desk -> CHECK.badState("a version that is there", desk));
        Twins.stayAlike(CHECK, "another signer", () -> refusedByState(1, 4, 3, 4),
            desk -> CHECK.badState("another signer", desk));
        Twins.stayAlike(CHECK, "a permission of another", () -> refusedByState(6, 2, 0, 2),
            desk -> CHECK.badState("a permission of another", desk));
        Twins.stayAlike(CHECK, "a permission of another, a new name", () -> refusedByState(7, 1, 2, 2),
            desk -> CHECK.badState("a permission of another, a new name", desk));
    }

    private static AppDesk refusedByState(int name, int version, int signer, int declared) {
        AppDesk desk = Twins.busyDesk();
        begin(desk, name, version, signer);
        desk.ask(3);
        desk.declare(declared, 0);
        desk.sign();
        return desk;
    }

    private static void allNames() {
        AppDesk desk = new AppDesk();
        for (int name = 0; name < 8; name++) {
            begin(desk, name, name + 1, name % 4);
            desk.sign();
            CHECK.installs("name " + name, desk, name);
        }
        for (int name = 0; name < 8; name++) {
            CHECK.same("app(" + name + ", 0)", desk.app(name, 0), name + 1);
            CHECK.same("app(" + name + ", 1)", desk.app(name, 1), name % 4);
        }
    }

    private static void fullPackage() {
        AppDesk desk = new AppDesk();
        for (int place = 0; place < 23; place++) {
            desk.word(Words.END);
        }
        desk.word(Words.jump(0));
        for (int part = 0; part < 4; part++) {
            desk.part(part, true, -1, part == 3 ? 23 : part);
        }
        desk.sign();
        CHECK.installs("4 parts, 24 words", desk, 0);
        desk.send(0, 3, 0);
        CHECK.same("deliver() to the fourth part", desk.deliver(), 0);
        CHECK.same("app(0, 3)", desk.app(0, 3), 23);
        CHECK.steps("the 24th word", desk, 0);
        CHECK.same("app(0, 3)", desk.app(0, 3), 23);
    }

    private static void nothingOfTheOlder() {
        AppDesk desk = new AppDesk();
        begin(desk, 2, 1, 0);
        desk.part(1, true, -1, 0);
        desk.part(2, true, -1, 0);
        desk.ask(0);
        desk.ask(1);
        desk.declare(0, 0);
        desk.declare(1, 0);
        desk.sign();
        desk.install();
        CHECK.yes("holds(2, 1)", desk.holds(2, 1));
        begin(desk, 2, 2, 0);
        desk.ask(0);
        desk.declare(0, 0);
        desk.sign();
        CHECK.installs("version 2", desk, 2);
        CHECK.same("app(2, 0)", desk.app(2, 0), 2);
        CHECK.yes("holds(2, 0)", desk.holds(2, 0));
        CHECK.no("holds(2, 1)", desk.holds(2, 1));
        CHECK.no("grant(2, 1)", desk.grant(2, 1));
        for (int action : new int[] {1, 2}) {
            desk.send(2, action, 0);
            CHECK.same("a part of version 1, action " + action + ": deliver()", desk.deliver(), -1);
        }
        desk.send(2, 0, 0);
        CHECK.same("the part of version 2: deliver()", desk.deliver(), 2);
    }

    private static void draftStays() {
        AppDesk desk = new AppDesk();
        begin(desk, 3, 7, 2);
        desk.ask(5);
        desk.declare(6, 1);
        int seal = desk.sign();
        CHECK.installs("the draft", desk, 3);
        desk.remove(3);
        CHECK.installs("the draft, its seal too, once more", desk, 3);
        CHECK.same("sign()", desk.sign(), seal);
        CHECK.no("ask(5)", desk.ask(5));
        CHECK.no("declare(6, 1)", desk.declare(6, 1));
    }

    private static void installedIsACopy() {
        AppDesk desk = with(1, 1, 0);
        desk.part(1, true, -1, 0);
        desk.ask(0);
        desk.declare(0, 0);
        desk.send(1, 1, 0);
        CHECK.same("a part added to the draft only: deliver()", desk.deliver(), -1);
        CHECK.no("asked by the draft only: grant(1, 0)", desk.grant(1, 0));
        CHECK.no("asked by the draft only: holds(1, 0)", desk.holds(1, 0));
        desk.draft(1, 3, 2);
        CHECK.same("app(1, 0)", desk.app(1, 0), 1);
        CHECK.same("app(1, 1)", desk.app(1, 1), 0);
    }

    /** App 2 keeps 77 under 3, was granted 1 and 2, asks for 3 too, and waits in a loop. */
    private static AppDesk older() {
        AppDesk desk = new AppDesk();
        desk.draft(2, 1, 1);
        Words.code(desk, Words.push(3), Words.load(0), Words.KEEP, Words.push(9), Words.jump(0));
        desk.part(0, true, -1, 0);
        desk.ask(1);
        desk.ask(2);
        desk.ask(3);
        desk.sign();
        desk.install();
        desk.send(2, 0, 77);
        desk.deliver();
        CHECK.stepsMany("keeping", desk, 2, 4);
        desk.grant(2, 1);
        desk.grant(2, 2);
        return desk;
    }

    private static void upgrade(AppDesk desk, int version, int... asked) {
        begin(desk, 2, version, 1);
        for (int permission : asked) {
            desk.ask(permission);
        }
        desk.sign();
        CHECK.installs("version " + version, desk, 2);
    }

    private static void keptStays() {
        AppDesk desk = older();
        upgrade(desk, 2);
        CHECK.same("kept(2, 3)", desk.kept(2, 3), 77);
        CHECK.same("app(2, 6)", desk.app(2, 6), 1);
    }

    private static void grantedStays() {
        AppDesk desk = older();
        upgrade(desk, 2, 1, 2, 3);
        CHECK.no("granted already: grant(2, 1)", desk.grant(2, 1));
        CHECK.no("granted already: grant(2, 2)", desk.grant(2, 2));
        CHECK.no("never granted: revoke(2, 3)", desk.revoke(2, 3));
        CHECK.yes("revoke(2, 1)", desk.revoke(2, 1));
        CHECK.yes("revoke(2, 2)", desk.revoke(2, 2));
    }

    private static void grantedNoMore() {
        AppDesk desk = older();
        upgrade(desk, 2, 2, 4);
        CHECK.no("revoke(2, 1)", desk.revoke(2, 1));
        CHECK.no("asked for newly, not granted: revoke(2, 4)", desk.revoke(2, 4));
        upgrade(desk, 3, 1, 2);
        CHECK.no("asked for again, the grant stays lost: revoke(2, 1)", desk.revoke(2, 1));
        CHECK.yes("granted throughout: revoke(2, 2)", desk.revoke(2, 2));
        CHECK.yes("grant(2, 1)", desk.grant(2, 1));
    }

    private static void doesNotRun() {
        AppDesk desk = older();
        CHECK.same("the older one runs: app(2, 2)", desk.app(2, 2), 1);
        upgrade(desk, 2);
        for (int what = 2; what <= 5; what++) {
            CHECK.same("app(2, " + what + ")", desk.app(2, what), 0);
        }
        CHECK.steps("nobody runs", desk, -1);
        CHECK.same("a new one does not run either: app(5, 2)", with(5, 1, 0).app(5, 2), 0);
    }

    private static void intentsStay() {
        AppDesk desk = older();
        desk.send(2, 0, 9);
        upgrade(desk, 2);
        CHECK.same("queued()", desk.queued(), 1);
        CHECK.same("deliver()", desk.deliver(), 2);
    }

    private static void removed() {
        for (int name : new int[] {0, 4, 7}) {
            AppDesk desk = with(name, 1, 0);
            CHECK.yes("remove(" + name + ")", desk.remove(name));
            for (int what = 0; what <= 6; what++) {
                CHECK.same("app(" + name + ", " + what + ")", desk.app(name, what), -1);
            }
            CHECK.no("send(" + name + ", 0, 0)", desk.send(name, 0, 0));
        }
    }

    private static void removeRefused() {
        Twins.stayAlike(CHECK, "refused removing", Twins::busyDesk, desk -> {
            for (int name : new int[] {-1, 8, 9, 32, 33, 0, 2, 5, 7, MIN, MAX}) {
                CHECK.no("remove(" + name + ")", desk.remove(name));
            }
        });
        AppDesk desk = with(2, 1, 0);
        desk.remove(2);
        CHECK.no("remove(2) again", desk.remove(2));
    }

    private static void removedKeepsNothing() {
        AppDesk desk = older();
        desk.remove(2);
        CHECK.same("kept(2, 3)", desk.kept(2, 3), 0);
        upgrade(desk, 1);
        CHECK.same("installed anew: kept(2, 3)", desk.kept(2, 3), 0);
        CHECK.same("installed anew: app(2, 6)", desk.app(2, 6), 0);
    }

    private static void removedHasNoGrants() {
        AppDesk desk = older();
        desk.remove(2);
        CHECK.no("revoke(2, 1)", desk.revoke(2, 1));
        upgrade(desk, 1, 1, 2);
        CHECK.no("installed anew: revoke(2, 1)", desk.revoke(2, 1));
        CHECK.no("installed anew: revoke(2, 2)", desk.revoke(2, 2));
        CHECK.yes("installed anew: grant(2, 1)", desk.grant(2, 1));
        desk.remove(2);
        upgrade(desk, 1, 0, 1, 2, 3, 4, 5, 6, 7);
        for (int permission = 0; permission < 8; permission++) {
            CHECK.no("asking for all: revoke(2, " + permission + ")", desk.revoke(2, permission));
        }
    }

    private static void removedDoesNotRun() {
        AppDesk desk = older();
        desk.remove(2);
        CHECK.steps("nobody runs", desk, -1);
        upgrade(desk, 1);
        CHECK.same("installed anew: app(2, 2)", desk.app(2, 2), 0);
        CHECK.steps("still nobody runs", desk, -1);
    }

    private static void removedSentNothing() {
        AppDesk desk = new AppDesk();
        Words.installPlain(desk, 1, 1, Words.jump(0));
        Words.installPlain(desk, 2, 2, Words.load(0), Words.END);
        int[] senders = {1, 2, 1, 1, 2, 1, 2, 1};
        for (int i = 0; i < 8; i++) {
            desk.send(senders[i], 2, 100 + i);
        }
        CHECK.yes("remove(1)", desk.remove(1));
        CHECK.same("queued()", desk.queued(), 3);
        for (int value : new int[] {101, 104, 106}) {
            CHECK.same("deliver() in the old order", desk.deliver(), 2);
            CHECK.steps("LOAD 0", desk, 2);
            CHECK.same("app(2, 5)", desk.app(2, 5), value);
            CHECK.steps("END", desk, 2);
        }
        CHECK.same("queued()", desk.queued(), 0);
    }

    private static void removedSentAll() {
        AppDesk desk = new AppDesk();
        Words.installPlain(desk, 0, 0, Words.jump(0));
        Words.installPlain(desk, 7, 7, Words.jump(0));
        for (int i = 0; i < 8; i++) {
            desk.send(7, 0, i);
        }
        desk.remove(7);
        CHECK.same("queued()", desk.queued(), 0);
        CHECK.same("deliver()", desk.deliver(), -1);
        CHECK.yes("there is room again: send(0, 0, 5)", desk.send(0, 0, 5));
        CHECK.same("deliver()", desk.deliver(), 0);
    }

    private static void othersIntentsStay() {
        AppDesk desk = new AppDesk();
        Words.installPlain(desk, 1, 1, Words.END);
        Words.installPlain(desk, 2, 2, Words.END);
        desk.send(1, 2, 50);
        desk.send(1, 1, 51);
        desk.remove(2);
        CHECK.same("queued()", desk.queued(), 2);
        CHECK.same("what was meant for app 2 is lost: deliver()", desk.deliver(), -1);
        CHECK.same("the next one is not: deliver()", desk.deliver(), 1);
    }

    private static void removedFreesTheName() {
        AppDesk desk = with(1, 5, 0);
        desk.remove(1);
        begin(desk, 1, 1, 3);
        desk.sign();
        CHECK.installs("another signer, a lower version", desk, 1);
        CHECK.same("app(1, 0)", desk.app(1, 0), 1);
        CHECK.same("app(1, 1)", desk.app(1, 1), 3);
    }
}
