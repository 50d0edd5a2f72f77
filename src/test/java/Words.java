/** Words by name, and the document's MIX, so that the tests can be read. */
final class Words {
    static final int END = 0;
    static final int ADD = 2;
    static final int SUBTRACT = 3;
    static final int COPY = 4;
    static final int DROP = 5;
    static final int GET = 10;
    static final int KEEP = 11;
    static final int SEND = 12;

    private Words() {
    }

    static int push(int n) {
        return n * 16 + 1;
    }

    static int load(int n) {
        return n * 16 + 6;
    }

    static int store(int n) {
        return n * 16 + 7;
    }

    static int jump(int n) {
        return n * 16 + 8;
    }

    static int jumpIfZero(int n) {
        return n * 16 + 9;
    }

    static int holds(int n) {
        return n * 16 + 13;
    }

    static int mix(int... numbers) {
        int h = 17;
        for (int x : numbers) {
            h = h * 31 + x;
            h = h ^ (h >>> 13);
        }
        return h;
    }

    static int seal(int signer, int... numbers) {
        return mix(numbers) ^ (1000003 * (signer + 1));
    }

    static void code(AppDesk desk, int... words) {
        for (int w : words) {
            desk.word(w);
        }
    }

    /** An app without permissions whose only part, open and for the action, begins at place 0. */
    static void installPlain(AppDesk desk, int name, int action, int... words) {
        desk.draft(name, 1, 0);
        code(desk, words);
        desk.part(action, true, -1, 0);
        desk.sign();
        desk.install();
    }

    /** An app that runs from place 0 on, with the value in local 0 and its own name in local 1. */
    static AppDesk running(int name, int value, int... words) {
        AppDesk desk = new AppDesk();
        installPlain(desk, name, 0, words);
        desk.send(name, 0, value);
        desk.deliver();
        return desk;
    }
}
