/** Long runs of calls, always the same ones, each answered by AppDesk and by the model. */
public final class ModelTest {
    private static final int RUNS = 1500;
    private static final int CALLS = 512;
    private static final int[] EDGES = {-2, -1, 0, 3, 4, 7, 8, 9, 10, 31, 32, 40, Integer.MIN_VALUE, Integer.MAX_VALUE};
    private static final int[] SEEN = new int[8];

    private final Check check;
    private final AppDesk desk = new AppDesk();
    private final Model model = new Model();
    private final String run;
    private final int[] begins = new int[4];
    private int pieces;
    private int length;
    private long seed;
    private int calls;

    private ModelTest(Check check, int number) {
        this.check = check;
        run = "run " + number;
        seed = number * 7919L + 1;
    }

    public static void main(String[] args) {
        Check check = new Check("ModelTest");
        for (int number = 1; number <= RUNS; number++) {
            new ModelTest(check, number).play();
        }
        String[] kinds = {"installed", "bad arguments", "bad states", "delivered", "steps", "failures", "held", "kept"};
        for (int kind = 0; kind < kinds.length; kind++) {
            check.yes("the runs come to see enough: " + kinds[kind] + " " + SEEN[kind], SEEN[kind] >= 500);
        }
        check.end();
    }

    private int below(int limit) {
        seed = seed * 6364136223846793005L + 1442695040888963407L;
        return (int) Math.floorMod(seed >>> 33, (long) limit);
    }

    private int number(int limit) {
        return below(30) == 0 ? EDGES[below(EDGES.length)] : below(limit);
    }

    private void same(String call, long got, long want) {
        calls++;
        check.same(run + ", call " + calls + ", " + call, got, want);
    }

    private static int bit(boolean answer) {
        return answer ? 1 : 0;
    }

    private void play() {
        for (int i = 0; i < 4; i++) {
            makePackage();
        }
        while (calls < CALLS - 60) {
            int kind = below(100);
            if (kind < 3) {
                makePackage();
            } else if (kind < 6) {
                changeDraft();
            } else if (kind < 16) {
                useApps();
            } else if (kind < 36) {
                useIntents();
            } else if (kind < 75) {
                step();
            } else {
                look();
            }
        }
        while (calls < CALLS) {
            look();
        }
    }

    private void makePackage() {
        draft();
        for (int i = below(4); i > 0; i--) {
            ask();
        }
        for (int i = below(3); i > 0; i--) {
            declare();
        }
        words();
        for (int i = 1 + below(4); i > 0; i--) {
            part(below(40) == 0 ? number(24) : begins[below(pieces)]);
        }
        if (below(10) > 0) {
            same("sign()", desk.sign(), model.sign());
        }
        install();
    }

    private void draft() {
        int name = number(5);
        int version = below(20) == 0 ? EDGES[below(EDGES.length)] : 1 + below(4) + calls / 64;
        int signer = below(6) == 0 ? number(4) : Math.floorMod(name, 2);
        same("draft(" + name + ", " + version + ", " + signer + ")", bit(desk.draft(name, version, signer)),
            bit(model.draft(name, version, signer)));
    }

    /** Pieces that leave the stack empty, so that most of the code is good and a part may begin with each. */
    private void words() {
        pieces = 0;
        length = 0;
        for (int i = 1 + below(begins.length); i > 0; i--) {
            begins[pieces] = length;
            pieces++;
            piece();
        }
        word(below(5) == 0 ? Words.jump(-length) : below(40) == 0 ? below(400) - 100 : Words.END);
    }

    private void piece() {
        int[][] choice = {
            {Words.push(below(9)), Words.load(below(2)), Words.KEEP},
            {Words.push(below(8)), Words.push(below(1000)), Words.KEEP},
            {Words.push(below(11)), Words.load(0), Words.SEND},
            {Words.push(below(5)), Words.push(below(10)), Words.SEND},
            {Words.holds(below(8)), Words.jumpIfZero(2), Words.jump(1)},
            {Words.push(below(9)), Words.GET, Words.store(below(4))},
            {Words.load(0), Words.push(below(5) - 2), Words.ADD, Words.COPY, Words.store(0), Words.DROP},
            {Words.load(1), Words.load(0), Words.SUBTRACT, Words.jumpIfZero(-3)},
            {Words.load(0), Words.load(0), Words.KEEP},
            {Words.load(0), Words.load(0), Words.SEND},
            {Words.jump(1)},
        };
        for (int w : choice[below(choice.length)]) {
            word(below(100) == 0 ? below(1 << 10) - 512 : w);
            length++;
        }
    }

    private void word(int w) {
        same("word(" + w + ")", bit(desk.word(w)), bit(model.word(w)));
    }

    private void part(int place) {
        int action = number(5);
        boolean open = below(3) > 0;
        int guard = below(3) > 0 ? -1 : number(6);
        same("part(" + action + ", " + open + ", " + guard + ", " + place + ")", bit(desk.part(action, open, guard, place)),
            bit(model.part(action, open, guard, place)));
    }

    private void ask() {
        int permission = number(6);
        same("ask(" + permission + ")", bit(desk.ask(permission)), bit(model.ask(permission)));
    }

    private void declare() {
        int permission = number(8);
        int level = number(3);
        same("declare(" + permission + ", " + level + ")", bit(desk.declare(permission, level)),
            bit(model.declare(permission, level)));
    }

    private void install() {
        int want = model.install();
        SEEN[want == -100 ? 1 : want == -200 ? 2 : 0]++;
        same("install()", Check.installing(desk), want);
    }

    private void changeDraft() {
        switch (below(7)) {
            case 0 -> word(below(500) - 100);
            case 1 -> part(number(24));
            case 2 -> ask();
            case 3 -> declare();
            case 4 -> same("sign()", desk.sign(), model.sign());
            case 5 -> {
                int seal = below(1000);
                desk.seal(seal);
                model.seal(seal);
                calls++;
            }
            default -> install();
        }
    }

    private void useApps() {
        int name = number(5);
        int permission = number(6);
        int kind = below(20);
        if (kind == 0) {
            same("remove(" + name + ")", bit(desk.remove(name)), bit(model.remove(name)));
        } else if (kind < 14) {
            same("grant(" + name + ", " + permission + ")", bit(desk.grant(name, permission)),
                bit(model.grant(name, permission)));
        } else {
            same("revoke(" + name + ", " + permission + ")", bit(desk.revoke(name, permission)),
                bit(model.revoke(name, permission)));
        }
    }

    private void useIntents() {
        if (below(7) < 4) {
            int name = number(5);
            int action = number(5);
            int value = number(10);
            same("send(" + name + ", " + action + ", " + value + ")", bit(desk.send(name, action, value)),
                bit(model.send(name, action, value)));
        } else {
            int want = model.deliver();
            SEEN[3] += want >= 0 ? 1 : 0;
            same("deliver()", desk.deliver(), want);
        }
    }

    private void step() {
        int want = model.step();
        SEEN[4] += want >= 0 ? 1 : 0;
        SEEN[5] += want == -200 ? 1 : 0;
        same("step()", Check.stepping(desk), want);
    }

    private void look() {
        int name = number(5);
        int other = number(8);
        switch (below(5)) {
            case 0 -> {
                boolean want = model.holds(name, other);
                SEEN[6] += bit(want);
                same("holds(" + name + ", " + other + ")", bit(desk.holds(name, other)), bit(want));
            }
            case 1 -> {
                int want = model.kept(name, other);
                SEEN[7] += want != 0 ? 1 : 0;
                same("kept(" + name + ", " + other + ")", desk.kept(name, other), want);
            }
            case 2 -> same("queued()", desk.queued(), model.queued());
            default -> same("app(" + name + ", " + other + ")", desk.app(name, other), model.app(name, other));
        }
    }
}
