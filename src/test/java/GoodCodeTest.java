/** Promise 9: which code is good. */
public final class GoodCodeTest {
    private static final int[] FIRST = {0};
    private static final Check CHECK = new Check("GoodCodeTest");

    private GoodCodeTest() {
    }

    public static void main(String[] args) {
        CHECK.about("every word that can be reached", GoodCodeTest::onlyWhatIsReached);
        CHECK.about("from the beginning of a part", GoodCodeTest::everyPartIsABeginning);
        CHECK.about("its stack empty there", GoodCodeTest::emptyAtTheBeginning);
        CHECK.about("has one height of the stack only", GoodCodeTest::oneHeight);
        CHECK.about("however it is reached", GoodCodeTest::oneHeightFromAllSides);
        CHECK.about("with at least as much as its operation needs", GoodCodeTest::needs);
        CHECK.about("never more than 6 after it", GoodCodeTest::neverMoreThanSix);
        CHECK.about("become one / once more / DROP it / is dropped / both are dropped", GoodCodeTest::heightAfterEach);
        CHECK.about("is an operation (14 and 15 are no operations)", GoodCodeTest::operations);
        CHECK.about("the lowest four bits, n = w >> 4", GoodCodeTest::wordsBelowZero);
        CHECK.about("has an n of 0 .. 3 for 6 and 7", GoodCodeTest::locals);
        CHECK.about("0 .. 7 for 13", GoodCodeTest::permissions);
        CHECK.about("any n for the others", GoodCodeTest::anyArgument);
        CHECK.about("no place outside the code can be reached: behind its end", GoodCodeTest::behindTheEnd);
        CHECK.about("no place outside the code can be reached: by a jump", GoodCodeTest::jumpsOutside);
        CHECK.about("9 can go on in both ways", GoodCodeTest::bothWays);
        CHECK.about("0 in none", GoodCodeTest::noWay);
        CHECK.about("CODE of at most 24 WORDS", GoodCodeTest::longCode);
        CHECK.end();
    }

    private static AppDesk desk(int[] places, int... words) {
        AppDesk desk = new AppDesk();
        Words.code(desk, words);
        for (int place : places) {
            desk.part(0, true, -1, place);
        }
        desk.sign();
        return desk;
    }

    private static void good(String what, int... words) {
        CHECK.installs(what, desk(FIRST, words), 0);
    }

    private static void bad(String what, int... words) {
        CHECK.badArgument(what, desk(FIRST, words));
    }

    private static void goodIf(boolean isGood, String what, int... words) {
        if (isGood) {
            good(what, words);
        } else {
            bad(what, words);
        }
    }

    private static void onlyWhatIsReached() {
        good("behind 8 nothing is reached", Words.jump(3), 15, Words.ADD, Words.END);
        bad("what 8 reaches is looked at", Words.jump(2), Words.END, 15);
        bad("what is reached after a word is looked at", Words.push(0), Words.DROP, Words.push(0), Words.DROP, 14);
        good("a loop need not end", Words.jump(0));
        CHECK.installs("words before the only part", desk(new int[] {4}, Words.DROP, 14, Words.KEEP, 15, Words.END), 0);
    }

    private static void everyPartIsABeginning() {
        int[] code = {Words.END, Words.END, Words.END, Words.END, 14};
        CHECK.installs("four good parts", desk(new int[] {0, 1, 2, 3}, code), 0);
        for (int wrong = 0; wrong < 4; wrong++) {
            int[] places = {0, 1, 2, 3};
            places[wrong] = 4;
            CHECK.badArgument("part " + (wrong + 1) + " begins with no operation", desk(places, code));
        }
    }

    private static void emptyAtTheBeginning() {
        int[] code = {Words.push(0), Words.push(1), Words.ADD, Words.store(0), Words.END};
        CHECK.installs("the beginning alone", desk(FIRST, code), 0);
        CHECK.badArgument("ADD with nothing below it", desk(new int[] {2}, code));
        CHECK.badArgument("STORE of nothing", desk(new int[] {3}, code));
        CHECK.installs("the end alone", desk(new int[] {4}, code), 0);
        good("a jump to the beginning, the stack empty again", Words.push(0), Words.DROP, Words.jump(-2));
        bad("a jump to the beginning, the stack not empty", Words.push(0), Words.jump(-1));
    }

    private static void oneHeight() {
        bad("a loop that grows by 1", Words.push(0), Words.push(0), Words.jump(-1));
        bad("a loop that grows, by 9", Words.push(0), Words.COPY, Words.jumpIfZero(-2), Words.END);
        good("a loop that does not, by 9", Words.push(0), Words.COPY, Words.jumpIfZero(-1), Words.END);
        bad("a loop that shrinks", Words.push(0), Words.push(0), Words.DROP, Words.jump(-1));
        bad("other heights, though each were enough", Words.push(0), Words.jumpIfZero(2), Words.push(1), Words.END);
    }

    private static void oneHeightFromAllSides() {
        good("both ways with one height", Words.push(0), Words.jumpIfZero(3), Words.push(1), Words.jump(2),
            Words.push(2), Words.store(0), Words.END);
        bad("the way of the jump is higher", Words.push(0), Words.jumpIfZero(2), Words.jump(2), Words.push(1), Words.END);
        bad("the way on is higher", Words.push(0), Words.jumpIfZero(3), Words.push(1), Words.jump(2), Words.jump(1),
            Words.END);
        int[] code = {Words.push(0), Words.push(1), Words.ADD, Words.store(0), Words.END};
        CHECK.installs("two parts meet with one height", desk(new int[] {0, 4}, code), 0);
        CHECK.installs("two parts begin in one place", desk(new int[] {0, 0}, code), 0);
        CHECK.badArgument("a part begins where another comes higher", desk(new int[] {0, 1}, code));
        CHECK.badArgument("the same, the other way", desk(new int[] {1, 0}, code));
        CHECK.badArgument("the fourth part comes higher", desk(new int[] {4, 4, 4, 1}, Words.END, Words.push(0),
            Words.push(0), Words.jump(1), Words.END));
    }

    /** Each operation with less than it needs, just enough, and more. */
    private static void needs() {
        int[] words = {Words.ADD, Words.SUBTRACT, Words.COPY, Words.DROP, Words.store(0), Words.jumpIfZero(1),
            Words.GET, Words.KEEP, Words.SEND};
        int[] due = {2, 2, 1, 1, 1, 1, 1, 2, 2};
        for (int i = 0; i < words.length; i++) {
            for (int height = 0; height <= 3; height++) {
                int[] code = new int[height + 2];
                for (int k = 0; k < height; k++) {
                    code[k] = Words.push(0);
                }
                code[height] = words[i];
                goodIf(height >= due[i], "word " + words[i] + " at height " + height, code);
            }
        }
        for (int w : new int[] {Words.END, Words.push(1), Words.load(0), Words.jump(1), Words.holds(0)}) {
            good("word " + w + " needs nothing", w, Words.END);
        }
    }

    private static void neverMoreThanSix() {
        for (int w : new int[] {Words.push(0), Words.COPY, Words.load(0), Words.holds(0)}) {
            good("word " + w + " at height 5", Words.push(0), Words.COPY, Words.COPY, Words.COPY, Words.COPY, w, Words.END);
            bad("word " + w + " at height 6", atSix(w, 0));
        }
        good("END at height 6", atSix(Words.END, 0));
        good("GET at height 6", atSix(Words.GET, 0));
        good("JUMP at height 6", atSix(Words.jump(1), 0));
    }

    /** What stands on the stack after each operation at height 6 is told by how many may be dropped. */
    private static void heightAfterEach() {
        int[] words = {Words.ADD, Words.SUBTRACT, Words.DROP, Words.store(0), Words.jump(1), Words.jumpIfZero(1),
            Words.GET, Words.KEEP, Words.SEND};
        int[] after = {5, 5, 5, 5, 6, 5, 6, 4, 4};
        for (int i = 0; i < words.length; i++) {
            good("word " + words[i] + " leaves " + after[i], atSix(words[i], after[i]));
            bad("word " + words[i] + " leaves no more than " + after[i], atSix(words[i], after[i] + 1));
        }
        for (int w : new int[] {Words.push(0), Words.COPY, Words.load(0), Words.holds(0)}) {
            good("word " + w + " leaves 2", Words.push(0), w, Words.DROP, Words.DROP, Words.END);
            bad("word " + w + " leaves no more than 2", Words.push(0), w, Words.DROP, Words.DROP, Words.DROP, Words.END);
        }
    }

    private static int[] atSix(int w, int drops) {
        int[] code = new int[8 + drops];
        for (int i = 0; i < 6; i++) {
            code[i] = Words.push(0);
        }
        code[6] = w;
        for (int i = 0; i < drops; i++) {
            code[7 + i] = Words.DROP;
        }
        return code;
    }

    private static void operations() {
        for (int n : new int[] {0, 1, -1, 134217727, -134217728}) {
            bad("14 with " + n, Words.push(0), Words.push(0), 14 + 16 * n, Words.END);
            bad("15 with " + n, Words.push(0), Words.push(0), 15 + 16 * n, Words.END);
        }
        for (int operation = 0; operation < 14; operation++) {
            int w = operation == 8 || operation == 9 ? operation + 16 : operation;
            good("operation " + operation, Words.push(0), Words.push(0), w, Words.END);
        }
    }

    private static void wordsBelowZero() {
        good("-16 is END", -16);
        good("MIN is END", Integer.MIN_VALUE);
        good("-15 is PUSH", -15, Words.DROP, Words.END);
        bad("-2 is 14", -2, Words.END);
        bad("-1 is 15", -1, Words.END);
        bad("MAX is 15", Integer.MAX_VALUE, Words.END);
        CHECK.installs("-8 is JUMP by -1", desk(new int[] {1}, Words.END, -8), 0);
        CHECK.badArgument("-24 is JUMP by -2", desk(new int[] {1}, Words.END, -24));
    }

    private static void locals() {
        for (int n : new int[] {-134217728, -5, -1, 0, 1, 2, 3, 4, 5, 7, 32, 134217727}) {
            boolean local = n >= 0 && n <= 3;
            goodIf(local, "LOAD " + n, Words.load(n), Words.END);
            goodIf(local, "STORE " + n, Words.push(0), Words.store(n), Words.END);
        }
    }

    private static void permissions() {
        for (int n : new int[] {-134217728, -9, -1, 0, 1, 6, 7, 8, 9, 32, 134217727}) {
            goodIf(n >= 0 && n <= 7, "HOLDS " + n, Words.holds(n), Words.END);
        }
    }

    private static void anyArgument() {
        for (int n : new int[] {-134217728, -1, 4, 8, 134217727}) {
            good("PUSH " + n, Words.push(n), Words.END);
            good("END with " + n, Words.END + n * 16);
            for (int w : new int[] {Words.ADD, Words.SUBTRACT, Words.COPY, Words.DROP, Words.GET, Words.KEEP, Words.SEND}) {
                good("word " + w + " with " + n, Words.push(0), Words.push(0), w + n * 16, Words.END);
            }
        }
    }

    private static void behindTheEnd() {
        bad("the only word goes on", Words.push(0));
        bad("the last word goes on", Words.jump(1), Words.push(0));
        bad("the last word, reached with a height, goes on", Words.push(0), Words.DROP);
    }

    private static void jumpsOutside() {
        good("to the last word", Words.jump(2), 14, Words.END);
        bad("just behind it", Words.jump(3), 14, Words.END);
        good("to the first word", Words.push(0), Words.DROP, Words.jump(-2));
        bad("just before it", Words.push(0), Words.DROP, Words.jump(-3));
        bad("far on", Words.jump(134217727), Words.END);
        bad("far back", Words.jump(-134217728), Words.END);
        good("9 to the last word", Words.push(0), Words.jumpIfZero(2), Words.END, Words.END);
        bad("9 just behind it", Words.push(0), Words.jumpIfZero(3), Words.END, Words.END);
        good("9 to the first word", Words.push(0), Words.jumpIfZero(-1), Words.END);
        bad("9 just before it", Words.push(0), Words.jumpIfZero(-2), Words.END);
        bad("9 far on", Words.push(0), Words.jumpIfZero(134217727), Words.END);
        bad("9 far back", Words.push(0), Words.jumpIfZero(-134217728), Words.END);
    }

    private static void bothWays() {
        bad("the jump reaches no operation", Words.push(0), Words.jumpIfZero(2), Words.END, 14);
        bad("the way on reaches no operation", Words.push(0), Words.jumpIfZero(2), 14, Words.END);
        bad("the way on reaches the end", Words.push(0), Words.jumpIfZero(-1));
        bad("both ways count, whatever stands on the stack", Words.push(1), Words.jumpIfZero(9), Words.END);
    }

    private static void noWay() {
        good("behind 0 nothing is reached", Words.END, 14, Words.DROP, Words.load(9), Words.jump(99));
        good("0 may be the last word", Words.push(0), Words.END);
        good("0 with an argument does not jump", Words.END + 16 * 99);
    }

    private static void longCode() {
        int[] code = new int[24];
        for (int i = 0; i < 23; i++) {
            code[i] = i % 2 == 0 ? Words.push(i) : Words.DROP;
        }
        good("24 words", code);
        code[23] = Words.DROP;
        bad("24 words without an end", code);
        code[23] = Words.jump(-23);
        bad("24 words, back with a height of 1", code);
        code[22] = Words.END;
        good("24 words, the last one unreached", code);
        int[] backwards = new int[24];
        for (int i = 1; i < 24; i++) {
            backwards[i] = Words.jump(-1);
        }
        CHECK.installs("24 words from the last to the first", desk(new int[] {23}, backwards), 0);
        backwards[0] = 14;
        CHECK.badArgument("the same to no operation", desk(new int[] {23}, backwards));
    }
}
