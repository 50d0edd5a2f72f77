/** Promises 1 to 8: a new object, and how a draft is put together, signed and sealed. */
public final class DraftTest {
    private static final Check CHECK = new Check("DraftTest");

    private DraftTest() {
    }

    public static void main(String[] args) {
        newObject();
        firstDraft();
        sealBeginsWithZero();
        draft();
        draftRefused();
        draftBeginsAnew();
        word();
        part();
        partRefused();
        ask();
        declare();
        sign();
        sealOfEverySigner();
        seal();
        CHECK.end();
    }

    private static void newObject() {
        AppDesk desk = new AppDesk();
        for (int name = -1; name <= 8; name++) {
            for (int what = -1; what <= 7; what++) {
                CHECK.same("new: app(" + name + ", " + what + ")", desk.app(name, what), -1);
            }
            CHECK.no("new: remove(" + name + ")", desk.remove(name));
        }
        CHECK.same("new: queued()", desk.queued(), 0);
        CHECK.same("new: deliver()", desk.deliver(), -1);
        CHECK.steps("new", desk, -1);
        CHECK.badArgument("new", desk);
    }

    private static void firstDraft() {
        AppDesk desk = new AppDesk();
        CHECK.same("new: sign()", desk.sign(), Words.seal(0, 0, 1, 0));
        desk.word(Words.END);
        desk.part(0, true, -1, 0);
        CHECK.same("new with a part: sign()", desk.sign(), Words.seal(0, 0, 1, 0, 0, 1, -1, 0, 0));
        CHECK.installs("new with a part", desk, 0);
        CHECK.same("new with a part: app(0, 0)", desk.app(0, 0), 1);
        CHECK.same("new with a part: app(0, 1)", desk.app(0, 1), 0);
    }

    /** A word behind the end is chosen so that the right seal is 0: then the package needs no signing. */
    private static void sealBeginsWithZero() {
        int last = wordForSealZero(0, 1, 0, 0, 1, -1, 0, Words.END);
        AppDesk desk = new AppDesk();
        desk.word(Words.END);
        desk.word(last);
        desk.part(0, true, -1, 0);
        CHECK.installs("new, seal 0", desk, 0);
        desk.remove(0);
        desk.sign();
        desk.seal(5);
        desk.draft(0, 1, 0);
        desk.word(Words.END);
        desk.word(last);
        desk.part(0, true, -1, 0);
        CHECK.installs("draft anew, seal 0", desk, 0);
        CHECK.same("sign()", desk.sign(), 0);
    }

    private static int wordForSealZero(int... numbersBefore) {
        int digest = 1000003;
        int mixed = digest ^ (digest >>> 13) ^ (digest >>> 26);
        return mixed - Words.mix(numbersBefore) * 31;
    }

    private static void draft() {
        AppDesk desk = new AppDesk();
        CHECK.yes("draft(7, 1, 3)", desk.draft(7, 1, 3));
        CHECK.same("draft(7, 1, 3): sign()", desk.sign(), Words.seal(3, 7, 1, 0));
        CHECK.yes("draft(0, MAX, 0)", desk.draft(0, Integer.MAX_VALUE, 0));
        CHECK.same("draft(0, MAX, 0): sign()", desk.sign(), Words.seal(0, 0, Integer.MAX_VALUE, 0));
    }

    private static void draftRefused() {
        AppDesk desk = new AppDesk();
        desk.draft(3, 4, 2);
        desk.word(5);
        int before = desk.sign();
        int[][] wrong = {
            {-1, 1, 0}, {8, 1, 0}, {0, 0, 0}, {0, -1, 0}, {0, 1, -1}, {0, 1, 4},
            {Integer.MIN_VALUE, 1, 0}, {Integer.MAX_VALUE, 1, 0}, {0, Integer.MIN_VALUE, 0}, {0, 1, Integer.MAX_VALUE},
        };
        for (int[] w : wrong) {
            CHECK.no("draft(" + w[0] + ", " + w[1] + ", " + w[2] + ")", desk.draft(w[0], w[1], w[2]));
        }
        CHECK.same("a refused draft leaves the old one: sign()", desk.sign(), before);
    }

    private static void draftBeginsAnew() {
        AppDesk desk = new AppDesk();
        fillDraft(desk);
        desk.sign();
        desk.draft(1, 1, 0);
        CHECK.same("draft anew: sign()", desk.sign(), Words.seal(0, 1, 1, 0));
        fillDraft(desk);
        int seal = desk.sign();
        CHECK.same("filled: sign()", seal, Words.seal(0, 1, 1, 36, 31, 4, 1, -1, 0, 0));
        desk.draft(1, 1, 0);
        CHECK.yes("anew: ask(2)", desk.ask(2));
        CHECK.yes("anew: ask(5)", desk.ask(5));
        CHECK.yes("anew: declare(3, 1)", desk.declare(3, 1));
        CHECK.yes("anew: word(0)", desk.word(0));
        CHECK.yes("anew: part", desk.part(4, true, -1, 0));
        CHECK.badArgument("the seal is 0 again", desk);
        desk.seal(seal);
        CHECK.installs("the same package once more", desk, 1);
    }

    private static void fillDraft(AppDesk desk) {
        desk.ask(2);
        desk.ask(5);
        desk.declare(3, 1);
        desk.word(Words.END);
        desk.part(4, true, -1, 0);
    }

    private static void word() {
        AppDesk desk = new AppDesk();
        int[] numbers = new int[27];
        numbers[1] = 1;
        for (int i = 0; i < 24; i++) {
            int w = i * 1234567891 - 77;
            numbers[3 + i] = w;
            CHECK.yes("word " + (i + 1), desk.word(w));
        }
        CHECK.no("word 25", desk.word(0));
        CHECK.no("word 26", desk.word(1));
        CHECK.same("24 words: sign()", desk.sign(), Words.seal(0, numbers));
    }

    private static void part() {
        AppDesk desk = new AppDesk();
        CHECK.yes("part 1", desk.part(0, true, -1, 0));
        CHECK.yes("part 2", desk.part(9, false, 7, -5));
        CHECK.yes("part 3", desk.part(3, true, 0, Integer.MAX_VALUE));
        CHECK.yes("part 4, like part 1", desk.part(0, true, -1, 0));
        CHECK.no("part 5", desk.part(0, true, -1, 0));
        CHECK.same("4 parts: sign()", desk.sign(), Words.seal(0, 0, 1, 0,
            0, 1, -1, 0, 9, 0, 7, -5, 3, 1, 0, Integer.MAX_VALUE, 0, 1, -1, 0));
    }

    private static void partRefused() {
        AppDesk desk = new AppDesk();
        int before = desk.sign();
        int[][] wrong = {{-1, -1}, {10, -1}, {0, -2}, {0, 8}, {Integer.MIN_VALUE, 0}, {Integer.MAX_VALUE, 0},
            {0, Integer.MIN_VALUE}, {0, Integer.MAX_VALUE}};
        for (int[] w : wrong) {
            CHECK.no("part(" + w[0] + ", true, " + w[1] + ", 0)", desk.part(w[0], true, w[1], 0));
        }
        CHECK.same("refused parts: sign()", desk.sign(), before);
    }

    private static void ask() {
        AppDesk desk = new AppDesk();
        for (int permission : new int[] {-1, 8, 32, -32, Integer.MIN_VALUE, Integer.MAX_VALUE}) {
            CHECK.no("ask(" + permission + ")", desk.ask(permission));
        }
        CHECK.same("nothing asked: sign()", desk.sign(), Words.seal(0, 0, 1, 0));
        CHECK.yes("ask(0)", desk.ask(0));
        CHECK.yes("ask(7)", desk.ask(7));
        CHECK.no("ask(0) again", desk.ask(0));
        CHECK.no("ask(7) again", desk.ask(7));
        CHECK.same("0 and 7 asked: sign()", desk.sign(), Words.seal(0, 0, 1, 129));
    }

    private static void declare() {
        AppDesk desk = new AppDesk();
        int[][] wrong = {{-1, 0}, {8, 0}, {0, -1}, {0, 3}, {Integer.MAX_VALUE, 0}, {0, Integer.MIN_VALUE}};
        for (int[] w : wrong) {
            CHECK.no("declare(" + w[0] + ", " + w[1] + ")", desk.declare(w[0], w[1]));
        }
        CHECK.same("nothing declared: sign()", desk.sign(), Words.seal(0, 0, 1, 0));
        CHECK.yes("declare(7, 2)", desk.declare(7, 2));
        CHECK.yes("declare(0, 0)", desk.declare(0, 0));
        CHECK.yes("declare(4, 1)", desk.declare(4, 1));
        CHECK.no("declare(7, 2) again", desk.declare(7, 2));
        CHECK.no("declare(0, 1) with another level", desk.declare(0, 1));
        CHECK.same("by rising numbers: sign()", desk.sign(), Words.seal(0, 0, 1, 0, 0, 41, 72));
    }

    private static void sign() {
        AppDesk desk = new AppDesk();
        desk.draft(2, 9, 1);
        desk.word(Words.END);
        desk.part(1, false, 3, 0);
        CHECK.same("sign()", desk.sign(), Words.seal(1, 2, 9, 0, 1, 0, 3, 0, 0));
        CHECK.same("sign() again", desk.sign(), Words.seal(1, 2, 9, 0, 1, 0, 3, 0, 0));
        desk.word(Words.END);
        CHECK.badArgument("the seal is that of the draft as it was", desk);
        CHECK.same("sign() anew", desk.sign(), Words.seal(1, 2, 9, 0, 1, 0, 3, 0, 0, 0));
        CHECK.installs("signed anew", desk, 2);
    }

    private static void sealOfEverySigner() {
        AppDesk desk = new AppDesk();
        for (int signer = 0; signer < 4; signer++) {
            desk.draft(signer, 1, signer);
            CHECK.same("signer " + signer + ": sign()", desk.sign(), Words.mix(signer, 1, 0) ^ 1000003 * (signer + 1));
        }
        desk.draft(5, 2, 1);
        CHECK.same("a number from the shared test", desk.sign(), 1657260);
    }

    private static void seal() {
        AppDesk desk = new AppDesk();
        desk.draft(6, 2, 3);
        desk.word(Words.END);
        desk.part(1, true, -1, 0);
        int good = Words.seal(3, 6, 2, 0, 1, 1, -1, 0, 0);
        for (int wrong : new int[] {good + 1, ~good, 0, Words.seal(2, 6, 2, 0, 1, 1, -1, 0, 0)}) {
            desk.seal(wrong);
            CHECK.badArgument("seal(" + wrong + ")", desk);
        }
        desk.seal(good);
        CHECK.installs("seal(" + good + ")", desk, 6);
    }
}
