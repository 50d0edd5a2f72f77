/** Promises 1 to 8: a new object, and how a draft is put together, signed and sealed. */
public final class DraftTest {
    private static final int MIN = Integer.MIN_VALUE;
    private static final int MAX = Integer.MAX_VALUE;
    private static final Check CHECK = new Check("DraftTest");

    private DraftTest() {
    }

    public static void main(String[] args) {
        newObject();
        draft();
        wordsAndParts();
        permissions();
        seals();
        CHECK.end();
    }

    private static void newObject() {
        CHECK.about("1: Nothing installed", DraftTest::nothingInstalled);
        CHECK.about("1: a draft of name 0, version 1, signer 0", DraftTest::firstDraft);
        CHECK.about("1: seal 0", DraftTest::firstSealIsZero);
        CHECK.about("1: without anything", () -> isEmpty(new AppDesk(), 0, 1, 0));
        CHECK.about("1: an empty queue", DraftTest::firstQueueIsEmpty);
        CHECK.about("1: the turn is with the least name", DraftTest::firstTurn);
    }

    private static void draft() {
        CHECK.about("2: The draft begins anew, with a name, a version and a signer", DraftTest::draftOfEveryKind);
        CHECK.about("2: seal 0", DraftTest::newSealIsZero);
        CHECK.about("2: without anything", DraftTest::newDraftIsEmpty);
        CHECK.about("2: False if there is no such name", () -> draftRefused(new int[][] {
            {-1, 1, 0}, {8, 1, 0}, {9, 1, 0}, {MIN, 1, 0}, {MAX, 1, 0}}));
        CHECK.about("2: or signer", () -> draftRefused(new int[][] {
            {0, 1, -1}, {0, 1, 4}, {0, 1, 5}, {0, 1, MIN}, {0, 1, MAX}}));
        CHECK.about("2: or version is below 1", () -> draftRefused(new int[][] {{0, 0, 0}, {0, -1, 0}, {0, MIN, 0}}));
        CHECK.about("2: False if several are wrong", () -> draftRefused(new int[][] {
            {-1, 0, -1}, {8, 0, 4}, {8, 1, 4}, {0, 0, 4}}));
        CHECK.about("Terms: There is one DRAFT of a package", DraftTest::oneDraft);
    }

    private static void wordsAndParts() {
        CHECK.about("3: A word at the end of the draft's code: true", DraftTest::wordsInOrder);
        CHECK.about("3: false if there are 24", DraftTest::tooManyWords);
        CHECK.about("4: A part more of the draft: true", DraftTest::partsInOrder);
        CHECK.about("4: False if there are 4", DraftTest::tooManyParts);
        CHECK.about("4: there is no such action", () -> partRefused(new int[][] {
            {-1, -1}, {10, -1}, {11, 0}, {MIN, -1}, {MAX, -1}}));
        CHECK.about("4: guard is not -1 .. 7", () -> partRefused(new int[][] {
            {0, -2}, {0, 8}, {9, 9}, {0, MIN}, {0, MAX}}));
        CHECK.about("4: every action, every guard and any place will do", DraftTest::partsOfEveryKind);
    }

    private static void permissions() {
        CHECK.about("5: The draft asks for a permission: true", DraftTest::askForEach);
        CHECK.about("5: False if there is no such one", () -> askRefused(-1, 8, 9, 31, 32, 33, -32, MIN, MAX));
        CHECK.about("5: or it does already", () -> askRefused(1, 4));
        CHECK.about("6: The draft declares a permission: true", DraftTest::declareEach);
        CHECK.about("6: False if there is no such one", () -> declareRefused(new int[][] {
            {-1, 0}, {8, 0}, {9, 2}, {32, 0}, {-32, 1}, {MIN, 0}, {MAX, 0}}));
        CHECK.about("6: or level", () -> declareRefused(new int[][] {{0, -1}, {0, 3}, {7, 4}, {0, MIN}, {0, MAX}}));
        CHECK.about("6: or it does already", () -> declareRefused(new int[][] {{4, 0}, {4, 1}, {4, 2}}));
    }

    private static void seals() {
        CHECK.about("7: The draft gets the seal of its signer as it is now: the seal", DraftTest::signedAsItIsNow);
        CHECK.about("Terms: MIX (ints, everything wraps)", DraftTest::mixWraps);
        CHECK.about("Terms: the bits of what it asks for (bit p for permission p)", DraftTest::bitsOfAsked);
        CHECK.about("Terms: by rising numbers that it declares 10 * the permission + the level", DraftTest::declaredByNumber);
        CHECK.about("Terms: 1 or 0 (open), the guard (-1 for none), place", DraftTest::partsInDigest);
        CHECK.about("Terms: the digest xor 1000003 * (signer + 1)", DraftTest::sealOfEverySigner);
        CHECK.about("8: The draft gets any seal", DraftTest::anySeal);
    }

    private static void nothingInstalled() {
        AppDesk desk = new AppDesk();
        for (int name = -1; name <= 8; name++) {
            for (int what = -1; what <= 7; what++) {
                CHECK.same("app(" + name + ", " + what + ")", desk.app(name, what), -1);
            }
            for (int number = 0; number < 8; number++) {
                CHECK.no("holds(" + name + ", " + number + ")", desk.holds(name, number));
                CHECK.same("kept(" + name + ", " + number + ")", desk.kept(name, number), 0);
            }
            CHECK.no("remove(" + name + ")", desk.remove(name));
            CHECK.no("send(" + name + ", 0, 0)", desk.send(name, 0, 0));
        }
        CHECK.steps("nothing runs", desk, -1);
    }

    private static void firstDraft() {
        AppDesk desk = new AppDesk();
        desk.word(Words.END);
        desk.part(0, true, -1, 0);
        CHECK.same("sign()", desk.sign(), Words.seal(0, 0, 1, 0, 0, 1, -1, 0, 0));
        CHECK.installs("a word and a part more", desk, 0);
        CHECK.same("app(0, 0)", desk.app(0, 0), 1);
        CHECK.same("app(0, 1)", desk.app(0, 1), 0);
    }

    /** A word behind the end is chosen so that the right seal is 0: then the package needs no signing. */
    private static void addWhatSealZeroFits(AppDesk desk) {
        int digest = 1000003;
        int mixed = digest ^ (digest >>> 13) ^ (digest >>> 26);
        desk.word(Words.END);
        desk.word(mixed - Words.mix(0, 1, 0, 0, 1, -1, 0, Words.END) * 31);
        desk.part(0, true, -1, 0);
    }

    private static void firstSealIsZero() {
        AppDesk desk = new AppDesk();
        addWhatSealZeroFits(desk);
        CHECK.installs("never signed", desk, 0);
        CHECK.same("sign()", desk.sign(), 0);
    }

    private static void newSealIsZero() {
        AppDesk desk = new AppDesk();
        desk.seal(5);
        desk.draft(0, 1, 0);
        addWhatSealZeroFits(desk);
        CHECK.installs("never signed since", desk, 0);
    }

    /** All that a draft can have must still find room, and the seal must be that of an empty one. */
    private static void isEmpty(AppDesk desk, int name, int version, int signer) {
        CHECK.same("sign()", desk.sign(), Words.seal(signer, name, version, 0));
        CHECK.badArgument("without parts and words", desk);
        for (int i = 0; i < 24; i++) {
            CHECK.yes("word " + (i + 1), desk.word(Words.END));
        }
        for (int i = 0; i < 4; i++) {
            CHECK.yes("part " + (i + 1), desk.part(i, true, -1, i));
        }
        for (int permission = 0; permission < 8; permission++) {
            CHECK.yes("ask(" + permission + ")", desk.ask(permission));
            CHECK.yes("declare(" + permission + ", 2)", desk.declare(permission, 2));
        }
    }

    private static void firstQueueIsEmpty() {
        AppDesk desk = new AppDesk();
        CHECK.same("queued()", desk.queued(), 0);
        CHECK.same("deliver()", desk.deliver(), -1);
    }

    private static void firstTurn() {
        AppDesk desk = new AppDesk();
        for (int name : new int[] {7, 3, 0}) {
            Words.installPlain(desk, name, name, Words.jump(0));
            desk.send(name, name, 0);
            desk.deliver();
        }
        CHECK.steps("0, 3 and 7 run", desk, 0);
    }

    private static void draftOfEveryKind() {
        AppDesk desk = new AppDesk();
        for (int name = 0; name < 8; name++) {
            for (int signer = 0; signer < 4; signer++) {
                for (int version : new int[] {1, 2, MAX}) {
                    String call = "draft(" + name + ", " + version + ", " + signer + ")";
                    CHECK.yes(call, desk.draft(name, version, signer));
                    CHECK.same(call + ": sign()", desk.sign(), Words.seal(signer, name, version, 0));
                }
            }
        }
    }

    private static void newDraftIsEmpty() {
        AppDesk desk = new AppDesk();
        isEmpty(desk, 0, 1, 0);
        CHECK.yes("draft(1, 2, 3)", desk.draft(1, 2, 3));
        isEmpty(desk, 1, 2, 3);
        CHECK.yes("the same once more", desk.draft(1, 2, 3));
        isEmpty(desk, 1, 2, 3);
    }

    private static void draftRefused(int[][] wrong) {
        Twins.stayAlike(CHECK, "refused drafts", Twins::busyDesk, desk -> {
            for (int[] w : wrong) {
                CHECK.no("draft(" + w[0] + ", " + w[1] + ", " + w[2] + ")", desk.draft(w[0], w[1], w[2]));
            }
        });
    }

    private static void oneDraft() {
        AppDesk desk = new AppDesk();
        desk.draft(1, 1, 1);
        desk.word(5);
        desk.draft(2, 1, 1);
        desk.draft(1, 1, 1);
        CHECK.same("the first one is gone: sign()", desk.sign(), Words.seal(1, 1, 1, 0));
    }

    private static void wordsInOrder() {
        AppDesk desk = new AppDesk();
        int[] words = {MIN, MAX, -1, 0, 15, 16, -16, 5};
        int[] numbers = {0, 1, 0, MIN, MAX, -1, 0, 15, 16, -16, 5};
        for (int w : words) {
            CHECK.yes("word(" + w + ")", desk.word(w));
        }
        CHECK.same("sign()", desk.sign(), Words.seal(0, numbers));
    }

    private static AppDesk withWords(int count) {
        AppDesk desk = Twins.busyDesk();
        while (count > 2) {
            desk.word(count);
            count--;
        }
        desk.sign();
        return desk;
    }

    private static void tooManyWords() {
        AppDesk desk = withWords(23);
        CHECK.yes("word 24", desk.word(7));
        CHECK.no("word 25", desk.word(7));
        Twins.stayAlike(CHECK, "words beyond 24", () -> withWords(24), full -> {
            for (int w : new int[] {0, 1, -1, MIN, MAX}) {
                CHECK.no("word(" + w + ")", full.word(w));
            }
        });
    }

    private static void partsInOrder() {
        AppDesk desk = new AppDesk();
        CHECK.yes("part 1", desk.part(0, true, -1, 0));
        CHECK.yes("part 2", desk.part(9, false, 7, -5));
        CHECK.yes("part 3", desk.part(3, true, 0, MAX));
        CHECK.yes("part 4, like part 1", desk.part(0, true, -1, 0));
        CHECK.same("sign()", desk.sign(), Words.seal(0, 0, 1, 0, 0, 1, -1, 0, 9, 0, 7, -5, 3, 1, 0, MAX, 0, 1, -1, 0));
    }

    private static AppDesk withFourParts() {
        AppDesk desk = Twins.busyDesk();
        for (int i = 1; i < 4; i++) {
            desk.part(6 + i, true, -1, 0);
        }
        desk.sign();
        return desk;
    }

    private static void tooManyParts() {
        Twins.stayAlike(CHECK, "parts beyond 4", DraftTest::withFourParts, full -> {
            CHECK.no("part 5, like part 4", full.part(9, true, -1, 0));
            CHECK.no("part 5", full.part(0, false, 3, 1));
            CHECK.no("part 5, wrong in itself", full.part(10, false, 8, -1));
        });
    }

    private static void partRefused(int[][] wrong) {
        Twins.stayAlike(CHECK, "refused parts", Twins::busyDesk, desk -> {
            for (int[] w : wrong) {
                CHECK.no("part(" + w[0] + ", true, " + w[1] + ", 0)", desk.part(w[0], true, w[1], 0));
                CHECK.no("part(" + w[0] + ", false, " + w[1] + ", 0)", desk.part(w[0], false, w[1], 0));
            }
        });
    }

    private static void partsOfEveryKind() {
        AppDesk desk = new AppDesk();
        for (int action = 0; action < 10; action++) {
            desk.draft(0, 1, 0);
            CHECK.yes("part(" + action + ", true, -1, 0)", desk.part(action, true, -1, 0));
        }
        for (int guard = -1; guard < 8; guard++) {
            desk.draft(0, 1, 0);
            CHECK.yes("part(0, true, " + guard + ", 0)", desk.part(0, true, guard, 0));
        }
        for (int place : new int[] {-1, 0, 23, 24, MIN, MAX}) {
            desk.draft(0, 1, 0);
            CHECK.yes("part(0, true, -1, " + place + ")", desk.part(0, true, -1, place));
        }
    }

    private static void askForEach() {
        AppDesk desk = new AppDesk();
        for (int permission = 0; permission < 8; permission++) {
            CHECK.yes("ask(" + permission + ")", desk.ask(permission));
        }
        CHECK.same("sign()", desk.sign(), Words.seal(0, 0, 1, 255));
    }

    private static void askRefused(int... wrong) {
        Twins.stayAlike(CHECK, "refused asking", Twins::busyDesk, desk -> {
            for (int permission : wrong) {
                CHECK.no("ask(" + permission + ")", desk.ask(permission));
            }
        });
    }

    private static void declareEach() {
        AppDesk desk = new AppDesk();
        for (int level = 0; level < 3; level++) {
            desk.draft(0, 1, 0);
            for (int permission = 0; permission < 8; permission++) {
                CHECK.yes("declare(" + permission + ", " + level + ")", desk.declare(permission, level));
            }
        }
        CHECK.same("sign()", desk.sign(), Words.seal(0, 0, 1, 0, 2, 12, 22, 32, 42, 52, 62, 72));
    }

    private static void declareRefused(int[][] wrong) {
        Twins.stayAlike(CHECK, "refused declaring", Twins::busyDesk, desk -> {
            for (int[] w : wrong) {
                CHECK.no("declare(" + w[0] + ", " + w[1] + ")", desk.declare(w[0], w[1]));
            }
        });
    }

    private static void signedAsItIsNow() {
        AppDesk desk = new AppDesk();
        desk.draft(2, 9, 1);
        desk.word(Words.END);
        desk.part(1, false, 3, 0);
        CHECK.same("sign()", desk.sign(), Words.seal(1, 2, 9, 0, 1, 0, 3, 0, 0));
        CHECK.same("sign() again", desk.sign(), Words.seal(1, 2, 9, 0, 1, 0, 3, 0, 0));
        desk.word(Words.END);
        CHECK.badArgument("the seal is that of the draft as it was", desk);
        CHECK.same("sign() anew", desk.sign(), Words.seal(1, 2, 9, 0, 1, 0, 3, 0, 0, 0));
        CHECK.installs("signed anew", desk, 2);
    }

    /** The numbers were reckoned by another program, with whole numbers of any size cut to 32 bits. */
    private static void mixWraps() {
        AppDesk desk = new AppDesk();
        CHECK.same("new: sign()", desk.sign(), 588019);
        Words.code(desk, MIN, MAX, -1);
        CHECK.same("words MIN, MAX, -1: sign()", desk.sign(), 1951809669);
        desk.draft(7, MAX, 3);
        CHECK.same("draft(7, MAX, 3): sign()", desk.sign(), -2135238233);
    }

    private static void bitsOfAsked() {
        int[] due = {588016, 588017, 588015, 588011, 588003, 587987, 587955, 588147};
        AppDesk desk = new AppDesk();
        for (int permission = 0; permission < 8; permission++) {
            desk.draft(0, 1, 0);
            desk.ask(permission);
            CHECK.same("ask(" + permission + "): sign()", desk.sign(), due[permission]);
        }
    }

    private static void declaredByNumber() {
        AppDesk desk = new AppDesk();
        desk.draft(6, 5, 1);
        int[] levels = {0, 1, 2, 0, 1, 2, 0, 1};
        for (int permission : new int[] {7, 0, 5, 2, 6, 1, 4, 3}) {
            desk.ask(permission);
            desk.declare(permission, levels[permission]);
        }
        CHECK.same("all asked for and declared: sign()", desk.sign(), -631819592);
    }

    private static void partsInDigest() {
        AppDesk desk = new AppDesk();
        desk.draft(3, 4, 2);
        desk.part(9, false, -1, MIN);
        desk.part(0, true, 7, MAX);
        CHECK.same("two parts: sign()", desk.sign(), 362144236);
    }

    private static void sealOfEverySigner() {
        AppDesk desk = new AppDesk();
        int[] due = {588019, 1653419, 2753753, 3853377};
        for (int signer = 0; signer < 4; signer++) {
            desk.draft(signer, 1, signer);
            CHECK.same("signer " + signer + ": sign()", desk.sign(), due[signer]);
        }
        desk.draft(5, 2, 1);
        CHECK.same("a number from the shared test", desk.sign(), 1657260);
    }

    private static void anySeal() {
        AppDesk desk = new AppDesk();
        desk.draft(6, 2, 3);
        desk.word(Words.END);
        desk.part(1, true, -1, 0);
        int good = Words.seal(3, 6, 2, 0, 1, 1, -1, 0, 0);
        for (int wrong : new int[] {0, 1, -1, MIN, MAX, good + 1, ~good}) {
            desk.seal(wrong);
            CHECK.badArgument("seal(" + wrong + ")", desk);
        }
        desk.seal(good);
        CHECK.installs("seal(" + good + ")", desk, 6);
    }
}
