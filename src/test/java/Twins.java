import java.util.ArrayList;
import java.util.List;
import java.util.function.Consumer;
import java.util.function.Supplier;

/** Two desks made alike, one of which has calls that must change nothing: then both must tell the same. */
final class Twins {
    private Twins() {
    }

    static void stayAlike(Check check, String calls, Supplier<AppDesk> making, Consumer<AppDesk> idle) {
        stayAlike(check, calls, making, idle, true);
        stayAlike(check, calls, making, idle, false);
    }

    /** Signing shows what is in the draft but hides its seal, so each pair of twins shows one of the two. */
    private static void stayAlike(Check check, String calls, Supplier<AppDesk> making, Consumer<AppDesk> idle, boolean signs) {
        AppDesk plain = making.get();
        AppDesk tried = making.get();
        idle.accept(tried);
        List<String> due = everything(plain, signs);
        List<String> got = everything(tried, signs);
        check.same(calls + ": how much is told", got.size(), due.size());
        for (int i = 0; i < due.size() && i < got.size(); i++) {
            check.yes(calls + " must change nothing: " + got.get(i) + ", due is " + due.get(i), got.get(i).equals(due.get(i)));
        }
    }

    /**
     * A desk with something of everything: app 1 runs with two on its stack, keeps 3 keys and was granted 1 and 3;
     * app 3 runs too and is in turn; app 6 rests and holds 0, 1 and 2, which app 1 declares; three intents wait; the
     * draft would upgrade app 6.
     */
    static AppDesk busyDesk() {
        AppDesk desk = new AppDesk();
        desk.draft(1, 3, 0);
        Words.code(desk, Words.push(0), Words.load(0), Words.KEEP, Words.push(3), Words.load(0), Words.KEEP,
            Words.push(7), Words.load(0), Words.KEEP, Words.push(5), Words.push(6), Words.jump(0));
        desk.part(1, true, -1, 0);
        permissions(desk, new int[] {1, 3}, new int[] {0, 1, 2});
        desk.sign();
        desk.install();
        desk.draft(6, 1, 0);
        Words.code(desk, Words.load(0), Words.load(1), Words.END, Words.load(0), Words.END);
        desk.part(2, true, -1, 0);
        desk.part(4, true, 2, 3);
        permissions(desk, new int[] {0, 1, 2}, new int[] {});
        desk.sign();
        desk.install();
        desk.grant(1, 1);
        desk.grant(1, 3);
        desk.grant(6, 1);
        desk.send(6, 1, 40);
        desk.deliver();
        for (int i = 0; i < 11; i++) {
            desk.step();
        }
        Words.installPlain(desk, 3, 8, Words.END);
        desk.send(3, 8, 0);
        desk.deliver();
        desk.send(6, 2, 70);
        desk.send(1, 2, 71);
        desk.send(6, 4, 72);
        upgradeAsDraft(desk);
        return desk;
    }

    private static void permissions(AppDesk desk, int[] asked, int[] declaredWithOwnLevel) {
        for (int permission : asked) {
            desk.ask(permission);
        }
        for (int permission : declaredWithOwnLevel) {
            desk.declare(permission, permission);
        }
    }

    private static void upgradeAsDraft(AppDesk desk) {
        desk.draft(6, 2, 0);
        Words.code(desk, Words.load(0), Words.END);
        desk.part(5, true, -1, 0);
        desk.ask(1);
        desk.ask(4);
        desk.declare(4, 1);
        desk.sign();
    }

    /** All that can be asked, then all that calls bring to light: stacks, locals, turns, queue, grants, draft. */
    private static List<String> everything(AppDesk desk, boolean signs) {
        List<String> rows = new ArrayList<>();
        for (int name = 0; name < 8; name++) {
            for (int i = 0; i < 8; i++) {
                rows.add("app(" + name + ", " + i + ") " + desk.app(name, i));
                rows.add("holds(" + name + ", " + i + ") " + desk.holds(name, i));
                rows.add("kept(" + name + ", " + i + ") " + desk.kept(name, i));
            }
        }
        rows.add("queued() " + desk.queued());
        someSteps(desk, rows, 4);
        for (int i = 0; i < 8; i++) {
            rows.add("deliver() " + desk.deliver());
            someSteps(desk, rows, 6);
        }
        for (int name = 0; name < 8; name++) {
            for (int permission = 0; permission < 8; permission++) {
                rows.add("revoke(" + name + ", " + permission + ") " + desk.revoke(name, permission));
            }
        }
        if (signs) {
            rows.add("sign() " + desk.sign());
        }
        rows.add("install() " + Check.installing(desk));
        return rows;
    }

    private static void someSteps(AppDesk desk, List<String> rows, int times) {
        for (int i = 0; i < times; i++) {
            int name = Check.stepping(desk);
            rows.add("step() " + name);
            rows.add("app(" + name + ", 5) " + desk.app(name, 5));
        }
    }
}
