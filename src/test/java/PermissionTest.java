/** Promises 11, 12 and 17: grant, revoke and holds. */
public final class PermissionTest {
    private static final int[] FAR = {-1, 8, 32, 34, -30, Integer.MIN_VALUE, Integer.MAX_VALUE};
    private static final Check CHECK = new Check("PermissionTest");

    private PermissionTest() {
    }

    public static void main(String[] args) {
        grantAndRevoke();
        wrongNumbers();
        grantOfAnyPermission();
        levels();
        declarerComesAndGoes();
        ownPermission();
        heldByOperation();
        CHECK.end();
    }

    private static void begin(AppDesk desk, int name, int version, int signer, int... asked) {
        desk.draft(name, version, signer);
        desk.word(Words.END);
        desk.part(0, true, -1, 0);
        for (int permission : asked) {
            desk.ask(permission);
        }
    }

    private static void put(AppDesk desk) {
        desk.sign();
        desk.install();
    }

    private static void grantAndRevoke() {
        AppDesk desk = new AppDesk();
        begin(desk, 3, 1, 0, 2, 5);
        put(desk);
        CHECK.no("revoke(3, 2) before it is granted", desk.revoke(3, 2));
        CHECK.yes("grant(3, 2)", desk.grant(3, 2));
        CHECK.no("grant(3, 2) again", desk.grant(3, 2));
        CHECK.no("grant(3, 1), which it does not ask for", desk.grant(3, 1));
        CHECK.no("revoke(3, 5)", desk.revoke(3, 5));
        CHECK.yes("grant(3, 5)", desk.grant(3, 5));
        CHECK.yes("revoke(3, 2)", desk.revoke(3, 2));
        CHECK.no("revoke(3, 2) again", desk.revoke(3, 2));
        CHECK.yes("revoke(3, 5)", desk.revoke(3, 5));
        CHECK.yes("grant(3, 2) anew", desk.grant(3, 2));
    }

    private static void wrongNumbers() {
        AppDesk desk = new AppDesk();
        begin(desk, 0, 1, 0, 0, 1, 2, 3, 4, 5, 6, 7);
        desk.declare(0, 0);
        desk.declare(2, 0);
        put(desk);
        for (int p = 0; p < 8; p++) {
            desk.grant(0, p);
        }
        for (int far : FAR) {
            CHECK.no("grant(0, " + far + ")", desk.grant(0, far));
            CHECK.no("revoke(0, " + far + ")", desk.revoke(0, far));
            CHECK.no("holds(0, " + far + ")", desk.holds(0, far));
            CHECK.no("grant(" + far + ", 0)", desk.grant(far, 0));
            CHECK.no("revoke(" + far + ", 0)", desk.revoke(far, 0));
            CHECK.no("holds(" + far + ", 0)", desk.holds(far, 0));
        }
        CHECK.no("grant(1, 0), not installed", desk.grant(1, 0));
        CHECK.no("revoke(1, 0), not installed", desk.revoke(1, 0));
        CHECK.no("holds(1, 0), not installed", desk.holds(1, 0));
    }

    /** Asking is enough for a grant, whatever the level and whether or not it is declared. */
    private static void grantOfAnyPermission() {
        AppDesk desk = new AppDesk();
        begin(desk, 0, 1, 0);
        desk.declare(0, 0);
        desk.declare(2, 2);
        put(desk);
        begin(desk, 1, 1, 1, 0, 2, 3);
        put(desk);
        CHECK.yes("grant(1, 0)", desk.grant(1, 0));
        CHECK.yes("grant(1, 2)", desk.grant(1, 2));
        CHECK.yes("grant(1, 3)", desk.grant(1, 3));
        CHECK.no("holds(1, 2): a grant does not do for level 2", desk.holds(1, 2));
        CHECK.no("holds(1, 3): nobody declares it", desk.holds(1, 3));
        CHECK.yes("revoke(1, 0)", desk.revoke(1, 0));
        CHECK.yes("holds(1, 0): level 0 needs no grant", desk.holds(1, 0));
    }

    private static void levels() {
        AppDesk desk = new AppDesk();
        begin(desk, 4, 1, 2);
        desk.declare(0, 0);
        desk.declare(1, 1);
        desk.declare(2, 2);
        put(desk);
        begin(desk, 2, 1, 2, 0, 1, 2);
        put(desk);
        begin(desk, 6, 1, 3, 0, 1, 2);
        put(desk);
        begin(desk, 7, 1, 2);
        put(desk);
        for (int p = 0; p < 3; p++) {
            CHECK.no("holds(7, " + p + "), which it does not ask for", desk.holds(7, p));
            CHECK.no("holds(4, " + p + "), which it declares only", desk.holds(4, p));
        }
        CHECK.yes("holds(2, 0)", desk.holds(2, 0));
        CHECK.yes("holds(6, 0)", desk.holds(6, 0));
        CHECK.no("holds(2, 1)", desk.holds(2, 1));
        CHECK.no("holds(6, 1)", desk.holds(6, 1));
        CHECK.yes("holds(2, 2), the same signer", desk.holds(2, 2));
        CHECK.no("holds(6, 2), another signer", desk.holds(6, 2));
        desk.grant(6, 1);
        CHECK.yes("holds(6, 1), granted", desk.holds(6, 1));
        CHECK.no("holds(2, 1), granted to another", desk.holds(2, 1));
        desk.revoke(6, 1);
        CHECK.no("holds(6, 1), revoked", desk.holds(6, 1));
    }

    private static void declarerComesAndGoes() {
        AppDesk desk = new AppDesk();
        begin(desk, 5, 1, 0, 6);
        put(desk);
        desk.grant(5, 6);
        CHECK.no("nobody declares 6", desk.holds(5, 6));
        begin(desk, 1, 1, 1);
        desk.declare(6, 1);
        put(desk);
        CHECK.yes("level 1, granted before", desk.holds(5, 6));
        begin(desk, 1, 2, 1);
        desk.declare(6, 2);
        put(desk);
        CHECK.no("level 2, another signer", desk.holds(5, 6));
        begin(desk, 1, 3, 1);
        put(desk);
        CHECK.no("declared no more", desk.holds(5, 6));
        begin(desk, 1, 4, 1);
        desk.declare(6, 1);
        put(desk);
        CHECK.yes("declared again, still granted", desk.holds(5, 6));
        desk.remove(1);
        CHECK.no("the declaring app is gone", desk.holds(5, 6));
        CHECK.yes("the grant is not: revoke(5, 6)", desk.revoke(5, 6));
    }

    private static void ownPermission() {
        AppDesk desk = new AppDesk();
        begin(desk, 5, 1, 0, 0, 1, 2);
        desk.declare(0, 0);
        desk.declare(1, 1);
        desk.declare(2, 2);
        put(desk);
        CHECK.yes("its own, level 0", desk.holds(5, 0));
        CHECK.no("its own, level 1", desk.holds(5, 1));
        CHECK.yes("its own, level 2", desk.holds(5, 2));
        desk.grant(5, 1);
        CHECK.yes("its own, level 1, granted", desk.holds(5, 1));
    }

    private static void heldByOperation() {
        AppDesk desk = new AppDesk();
        desk.draft(5, 1, 0);
        Words.code(desk, Words.holds(7), Words.DROP, Words.jump(-2));
        desk.part(0, true, -1, 0);
        desk.ask(7);
        desk.declare(7, 1);
        put(desk);
        desk.send(5, 0, 0);
        desk.deliver();
        CHECK.steps("HOLDS 7", desk, 5);
        CHECK.same("not granted: app(5, 5)", desk.app(5, 5), 0);
        CHECK.same("app(5, 4)", desk.app(5, 4), 1);
        CHECK.same("app(5, 3)", desk.app(5, 3), 1);
        CHECK.stepsMany("DROP, JUMP", desk, 5, 2);
        desk.grant(5, 7);
        CHECK.steps("HOLDS 7 again", desk, 5);
        CHECK.same("granted: app(5, 5)", desk.app(5, 5), 1);
    }
}
