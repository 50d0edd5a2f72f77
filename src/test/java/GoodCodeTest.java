/** Promise 9: which code is good. */
public final class GoodCodeTest {
    private static final Check CHECK = new Check("GoodCodeTest");

    private GoodCodeTest() {
    }

    public static void main(String[] args) {
        needs();
        heightAfter();
        noOperations();
        arguments();
        ends();
        jumps();
        oneHeight();
        severalParts();
        unreached();
        longCode();
        CHECK.end();
    }

    private static AppDesk desk(int[] places, int... words) {
        AppDesk desk = new AppDesk();
        Words.code(desk, words);
        for (int place : places) {
            desk.part(0, true, -1, place);
        }
        desk.sign();
        return desk;
    }

    private static void good(String what, int... words) {
        CHECK.installs(what, desk(new int[] {0}, words), 0);
    }

    private static void bad(String what, int... words) {
        CHECK.badArgument(what, desk(new int[] {0}, words));
    }

    /** Each operation with just enough on the stack, and with one less. */
    private static void needs() {
        int[] words = {Words.ADD, Words.SUBTRACT, Words.COPY, Words.DROP, Words.store(0), Words.jumpIfZero(1),
            Words.GET, Words.KEEP, Words.SEND};
        int[] due = {2, 2, 1, 1, 1, 1, 1, 2, 2};
        for (int i = 0; i < words.length; i++) {
            for (int height = 0; height <= 3; height++) {
                int[] code = new int[height + 2];
                for (int k = 0; k < height; k++) {
                    code[k] = Words.push(0);
                }
                code[height] = words[i];
                String what = "word " + words[i] + " at height " + height;
                if (height >= due[i]) {
                    good(what, code);
                } else {
                    bad(what, code);
                }
            }
        }
        for (int w : new int[] {Words.END, Words.push(1), Words.load(0), Words.jump(1), Words.holds(0)}) {
            good("word " + w + " needs nothing", w, Words.END);
        }
    }

    /** What stands on the stack after each operation at height 6, told by how many may be dropped. */
    private static void heightAfter() {
        int[] words = {Words.ADD, Words.SUBTRACT, Words.DROP, Words.store(0), Words.jump(1), Words.jumpIfZero(1),
            Words.GET, Words.KEEP, Words.SEND};
        int[] after = {5, 5, 5, 5, 6, 5, 6, 4, 4};
        for (int i = 0; i < words.length; i++) {
            good("word " + words[i] + " leaves " + after[i], dropping(words[i], after[i]));
            bad("word " + words[i] + " leaves no more than " + after[i], dropping(words[i], after[i] + 1));
        }
        good("END at height 6", dropping(Words.END, 0));
        for (int w : new int[] {Words.push(0), Words.COPY, Words.load(0), Words.holds(0)}) {
            bad("word " + w + " at height 6", dropping(w, 0));
            good("word " + w + " at height 5", Words.push(0), Words.COPY, Words.COPY, Words.COPY, Words.COPY, w,
                Words.DROP, Words.DROP, Words.DROP, Words.DROP, Words.DROP, Words.DROP, Words.END);
        }
    }

    private static int[] dropping(int w, int drops) {
        int[] code = new int[8 + drops];
        for (int i = 0; i < 6; i++) {
            code[i] = Words.push(0);
        }
        code[6] = w;
        for (int i = 0; i < drops; i++) {
            code[7 + i] = Words.DROP;
        }
        return code;
    }

    private static void noOperations() {
        bad("14", Words.push(0), Words.push(0), 14, Words.END);
        bad("15", Words.push(0), Words.push(0), 15, Words.END);
        bad("-1 is 15", -1, Words.END);
        bad("-2 is 14", -2, Words.END);
        good("-16 is 0", -16);
        good("-15 is 1", -15, Words.END);
        good("MIN is 0", Integer.MIN_VALUE);
        bad("MAX is 15", Integer.MAX_VALUE, Words.END);
    }

    private static void arguments() {
        for (int n : new int[] {-1, 0, 3, 4, 7, 8, 32, -134217728, 134217727}) {
            boolean local = n >= 0 && n <= 3;
            boolean permission = n >= 0 && n <= 7;
            goodIf("load " + n, local, Words.load(n), Words.END);
            goodIf("store " + n, local, Words.push(0), Words.store(n), Words.END);
            goodIf("holds " + n, permission, Words.holds(n), Words.END);
            good("push " + n, Words.push(n), Words.END);
            good("copy with " + n, Words.push(0), Words.COPY + n * 16, Words.END);
            good("end with " + n, Words.END + n * 16);
        }
    }

    private static void goodIf(String what, boolean isGood, int... words) {
        if (isGood) {
            good(what, words);
        } else {
            bad(what, words);
        }
    }

    private static void ends() {
        bad("it goes on behind its end", Words.push(0));
        bad("it goes on behind its end after a jump", Words.jump(1), Words.push(0));
        good("a loop needs no end", Words.jump(0));
        bad("9 goes on behind the end", Words.push(0), Words.jumpIfZero(-1));
    }

    private static void jumps() {
        good("jump to the last word", Words.jump(2), 14, Words.END);
        bad("jump behind the last word", Words.jump(3), 14, Words.END);
        bad("jump before the first word", Words.jump(-1), Words.END);
        good("jump back to the first word", Words.push(0), Words.DROP, Words.jump(-2));
        bad("jump back before it", Words.push(0), Words.DROP, Words.jump(-3));
        bad("jump far", Words.jump(134217727), Words.END);
        bad("jump far back", Words.jump(-134217728), Words.END);
        good("9 to the last word", Words.push(0), Words.jumpIfZero(2), Words.END, Words.END);
        bad("9 behind the last word", Words.push(0), Words.jumpIfZero(3), Words.END, Words.END);
        bad("9 before the first word", Words.push(0), Words.jumpIfZero(-2), Words.END);
        bad("9 to no operation", Words.push(0), Words.jumpIfZero(2), Words.END, 14);
        bad("9 goes on to no operation", Words.push(0), Words.jumpIfZero(2), 14, Words.END);
    }

    private static void oneHeight() {
        bad("a loop that grows", Words.push(0), Words.jump(-1));
        bad("a loop that grows, by 9", Words.push(0), Words.COPY, Words.jumpIfZero(-2), Words.END);
        good("a loop that does not, by 9", Words.push(0), Words.COPY, Words.jumpIfZero(-1), Words.END);
        bad("9 leaves other heights", Words.push(0), Words.jumpIfZero(2), Words.push(1), Words.END);
        good("both ways with one height", Words.push(0), Words.jumpIfZero(3), Words.push(1), Words.jump(2),
            Words.push(2), Words.store(0), Words.END);
        bad("both ways with two heights", Words.push(0), Words.jumpIfZero(3), Words.push(1), Words.jump(2),
            Words.jump(1), Words.END);
        bad("a loop that shrinks", Words.push(0), Words.push(0), Words.DROP, Words.jump(-1));
    }

    private static void severalParts() {
        int[] code = {Words.push(0), Words.push(1), Words.ADD, Words.store(0), Words.END};
        CHECK.installs("parts at 0 and 4", desk(new int[] {0, 4}, code), 0);
        CHECK.installs("two parts at 0", desk(new int[] {0, 0}, code), 0);
        CHECK.badArgument("a part in the midst", desk(new int[] {0, 1}, code));
        CHECK.badArgument("the same, the other way", desk(new int[] {1, 0}, code));
        CHECK.badArgument("the fourth part is looked at too", desk(new int[] {0, 0, 4, 3}, code));
        CHECK.badArgument("a part behind the code", desk(new int[] {0, 5}, code));
        CHECK.installs("an inner part alone", desk(new int[] {4}, Words.DROP, 14, Words.KEEP, 15, Words.END), 0);
    }

    private static void unreached() {
        good("behind 0 nothing is reached", Words.END, 14, Words.DROP, Words.load(9), Words.jump(99));
        good("behind 8 nothing is reached", Words.jump(3), 15, Words.ADD, Words.END);
    }

    private static void longCode() {
        int[] code = new int[24];
        for (int i = 0; i < 23; i++) {
            code[i] = i % 2 == 0 ? Words.push(i) : Words.DROP;
        }
        good("24 words", code);
        code[23] = Words.DROP;
        bad("24 words without an end", code);
        code[23] = Words.jump(-23);
        bad("24 words, back with a height of 1", code);
        code[22] = Words.END;
        good("24 words, the last one unreached", code);
        int[] backwards = new int[24];
        for (int i = 1; i < 24; i++) {
            backwards[i] = Words.jump(-1);
        }
        CHECK.installs("24 words from the last to the first", desk(new int[] {23}, backwards), 0);
        backwards[0] = 14;
        CHECK.badArgument("the same to no operation", desk(new int[] {23}, backwards));
    }
}
