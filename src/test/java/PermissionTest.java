/** Promises 11, 12 and 17: grant, revoke and holds. */
public final class PermissionTest {
    private static final int[] NO_PERMISSIONS = {-1, 8, 9, 31, 32, 33, 39, -31, -32, Integer.MIN_VALUE, Integer.MAX_VALUE};
    private static final int[] NO_APPS = {-1, 8, 9, 32, -32, 0, 5, 7, Integer.MIN_VALUE, Integer.MAX_VALUE};
    private static final Check CHECK = new Check("PermissionTest");

    private PermissionTest() {
    }

    public static void main(String[] args) {
        granting();
        revoking();
        holding();
        CHECK.end();
    }

    private static void granting() {
        CHECK.about("11: The user grants a permission to an app: true", PermissionTest::grantEach);
        CHECK.about("11: False if none is installed under the name", PermissionTest::grantToNobody);
        CHECK.about("11: it does not ask for the permission", PermissionTest::grantNotAskedFor);
        CHECK.about("11: it does not ask for the permission: there is no such one", PermissionTest::grantNoSuchOne);
        CHECK.about("11: or was granted it already", PermissionTest::grantTwice);
        CHECK.about("11: asking is enough, whatever the level, declared or not", PermissionTest::grantOfAnyPermission);
    }

    private static void revoking() {
        CHECK.about("12: The user takes a grant back: true", PermissionTest::revokeEach);
        CHECK.about("12: false if it was not granted", PermissionTest::revokeNotGranted);
        CHECK.about("12: false if it was not granted: to nobody", PermissionTest::revokeFromNobody);
        CHECK.about("12: false if it was not granted: no such one", PermissionTest::revokeNoSuchOne);
        CHECK.about("12: false if it was not granted: taken back already", PermissionTest::revokeTwice);
    }

    private static void holding() {
        CHECK.about("An app HOLDS a permission that it asks for", PermissionTest::heldIfAskedFor);
        CHECK.about("if an installed app declares it", PermissionTest::heldIfDeclared);
        CHECK.about("with level 0", PermissionTest::heldByAll);
        CHECK.about("with level 1, if the user granted it", PermissionTest::heldByGrant);
        CHECK.about("with level 2, if both have the same signer", PermissionTest::heldBySigner);
        CHECK.about("an installed app declares it: the app itself", PermissionTest::ownPermission);
        CHECK.about("the level is that of the package that is installed now", PermissionTest::levelOfTheUpgrade);
        CHECK.about("17: Whether an app holds a permission: no such app", PermissionTest::holdsNobody);
        CHECK.about("17: Whether an app holds a permission: no such one", PermissionTest::holdsNoSuchOne);
        CHECK.about("13 HOLDS n: 1 if the app holds permission n, else 0", PermissionTest::heldByOperation);
    }

    private static void putAsking(AppDesk desk, int name, int version, int signer, int... asked) {
        begin(desk, name, version, signer);
        put(desk, asked);
    }

    private static void putDeclaring(AppDesk desk, int name, int version, int signer, int declared, int level, int... asked) {
        begin(desk, name, version, signer);
        desk.declare(declared, level);
        put(desk, asked);
    }

    private static void begin(AppDesk desk, int name, int version, int signer) {
        desk.draft(name, version, signer);
        desk.word(Words.END);
        desk.part(0, true, -1, 0);
    }

    private static void put(AppDesk desk, int... asked) {
        for (int permission : asked) {
            desk.ask(permission);
        }
        desk.sign();
        desk.install();
    }

    private static AppDesk askingForAll() {
        AppDesk desk = new AppDesk();
        putAsking(desk, 3, 1, 0, 0, 1, 2, 3, 4, 5, 6, 7);
        return desk;
    }

    private static void grantEach() {
        AppDesk desk = askingForAll();
        for (int permission = 0; permission < 8; permission++) {
            CHECK.yes("grant(3, " + permission + ")", desk.grant(3, permission));
        }
        desk = new AppDesk();
        putAsking(desk, 0, 1, 0, 4);
        putAsking(desk, 7, 1, 0, 4);
        CHECK.yes("grant(0, 4)", desk.grant(0, 4));
        CHECK.yes("granted to another: grant(7, 4)", desk.grant(7, 4));
    }

    private static void grantToNobody() {
        Twins.stayAlike(CHECK, "granting to nobody", Twins::busyDesk, desk -> {
            for (int name : NO_APPS) {
                CHECK.no("grant(" + name + ", 1)", desk.grant(name, 1));
            }
        });
        AppDesk desk = askingForAll();
        desk.remove(3);
        CHECK.no("removed: grant(3, 0)", desk.grant(3, 0));
    }

    private static void grantNotAskedFor() {
        Twins.stayAlike(CHECK, "granting what is not asked for", Twins::busyDesk, desk -> {
            for (int permission : new int[] {0, 2, 4, 5, 6, 7}) {
                CHECK.no("grant(1, " + permission + ")", desk.grant(1, permission));
            }
            CHECK.no("asked for by the draft only: grant(6, 4)", desk.grant(6, 4));
        });
    }

    private static void grantNoSuchOne() {
        Twins.stayAlike(CHECK, "granting what is no permission", PermissionTest::askingForAll, desk -> {
            for (int permission : NO_PERMISSIONS) {
                CHECK.no("grant(3, " + permission + ")", desk.grant(3, permission));
            }
        });
    }

    private static void grantTwice() {
        Twins.stayAlike(CHECK, "granting again", Twins::busyDesk, desk -> {
            CHECK.no("grant(1, 1)", desk.grant(1, 1));
            CHECK.no("grant(1, 3)", desk.grant(1, 3));
            CHECK.no("grant(6, 1)", desk.grant(6, 1));
        });
        AppDesk desk = askingForAll();
        desk.grant(3, 7);
        desk.revoke(3, 7);
        CHECK.yes("taken back in between: grant(3, 7)", desk.grant(3, 7));
        CHECK.no("grant(3, 7) again", desk.grant(3, 7));
    }

    private static void grantOfAnyPermission() {
        AppDesk desk = new AppDesk();
        putDeclaring(desk, 0, 1, 0, 0, 0);
        putDeclaring(desk, 2, 1, 0, 2, 2);
        putAsking(desk, 1, 1, 1, 0, 2, 3);
        CHECK.yes("level 0: grant(1, 0)", desk.grant(1, 0));
        CHECK.yes("level 2: grant(1, 2)", desk.grant(1, 2));
        CHECK.yes("not declared: grant(1, 3)", desk.grant(1, 3));
    }

    private static void revokeEach() {
        AppDesk desk = askingForAll();
        for (int permission = 0; permission < 8; permission++) {
            desk.grant(3, permission);
        }
        for (int permission = 0; permission < 8; permission++) {
            CHECK.yes("revoke(3, " + permission + ")", desk.revoke(3, permission));
        }
    }

    private static void revokeNotGranted() {
        Twins.stayAlike(CHECK, "taking back what was not granted", Twins::busyDesk, desk -> {
            for (int permission : new int[] {0, 2, 4, 5, 6, 7}) {
                CHECK.no("revoke(1, " + permission + ")", desk.revoke(1, permission));
            }
            CHECK.no("asked for and held by all: revoke(6, 0)", desk.revoke(6, 0));
            CHECK.no("asked for and held by its signer: revoke(6, 2)", desk.revoke(6, 2));
            CHECK.no("granted to another: revoke(6, 3)", desk.revoke(6, 3));
        });
    }

    private static void revokeFromNobody() {
        Twins.stayAlike(CHECK, "taking back from nobody", Twins::busyDesk, desk -> {
            for (int name : NO_APPS) {
                CHECK.no("revoke(" + name + ", 1)", desk.revoke(name, 1));
            }
        });
        AppDesk desk = askingForAll();
        desk.grant(3, 0);
        desk.remove(3);
        CHECK.no("removed: revoke(3, 0)", desk.revoke(3, 0));
    }

    private static AppDesk grantedAll() {
        AppDesk desk = askingForAll();
        for (int permission = 0; permission < 8; permission++) {
            desk.grant(3, permission);
        }
        return desk;
    }

    private static void revokeNoSuchOne() {
        Twins.stayAlike(CHECK, "taking back what is no permission", PermissionTest::grantedAll, desk -> {
            for (int permission : NO_PERMISSIONS) {
                CHECK.no("revoke(3, " + permission + ")", desk.revoke(3, permission));
            }
        });
    }

    private static void revokeTwice() {
        AppDesk desk = grantedAll();
        CHECK.yes("revoke(3, 0)", desk.revoke(3, 0));
        CHECK.no("revoke(3, 0) again", desk.revoke(3, 0));
        CHECK.yes("the others are still granted: revoke(3, 7)", desk.revoke(3, 7));
        CHECK.no("revoke(3, 7) again", desk.revoke(3, 7));
    }

    private static void heldIfAskedFor() {
        for (int level = 0; level < 3; level++) {
            AppDesk desk = new AppDesk();
            putDeclaring(desk, 4, 1, 2, 7, level);
            putAsking(desk, 2, 1, 2, 6);
            CHECK.no("not asked for, level " + level + ": holds(2, 7)", desk.holds(2, 7));
            CHECK.no("declared only, level " + level + ": holds(4, 7)", desk.holds(4, 7));
            putAsking(desk, 2, 2, 2, 7);
            desk.grant(2, 7);
            CHECK.yes("asked for, level " + level + ": holds(2, 7)", desk.holds(2, 7));
            putAsking(desk, 2, 3, 2);
            CHECK.no("not asked for any more, level " + level + ": holds(2, 7)", desk.holds(2, 7));
        }
    }

    private static void heldIfDeclared() {
        AppDesk desk = new AppDesk();
        putAsking(desk, 5, 1, 0, 6);
        desk.grant(5, 6);
        CHECK.no("nobody declares 6", desk.holds(5, 6));
        putDeclaring(desk, 1, 1, 0, 5, 0);
        CHECK.no("5 is declared", desk.holds(5, 6));
        for (int declarer : new int[] {0, 7}) {
            putDeclaring(desk, declarer, 1, 1, 6, 1);
            CHECK.yes("app " + declarer + " declares 6", desk.holds(5, 6));
            desk.remove(declarer);
            CHECK.no("app " + declarer + " is gone", desk.holds(5, 6));
        }
        CHECK.yes("the grant is not: revoke(5, 6)", desk.revoke(5, 6));
    }

    private static void heldByAll() {
        AppDesk desk = new AppDesk();
        putDeclaring(desk, 4, 1, 2, 0, 0);
        putAsking(desk, 2, 1, 2, 0);
        putAsking(desk, 6, 1, 3, 0);
        CHECK.yes("the same signer: holds(2, 0)", desk.holds(2, 0));
        CHECK.yes("another signer: holds(6, 0)", desk.holds(6, 0));
        desk.grant(6, 0);
        desk.revoke(6, 0);
        CHECK.yes("a grant is not needed: holds(6, 0)", desk.holds(6, 0));
    }

    private static void heldByGrant() {
        AppDesk desk = new AppDesk();
        putDeclaring(desk, 4, 1, 2, 1, 1);
        putAsking(desk, 2, 1, 2, 1);
        putAsking(desk, 6, 1, 3, 1);
        CHECK.no("the same signer: holds(2, 1)", desk.holds(2, 1));
        CHECK.no("another signer: holds(6, 1)", desk.holds(6, 1));
        desk.grant(6, 1);
        CHECK.yes("granted: holds(6, 1)", desk.holds(6, 1));
        CHECK.no("granted to another: holds(2, 1)", desk.holds(2, 1));
        desk.revoke(6, 1);
        CHECK.no("taken back: holds(6, 1)", desk.holds(6, 1));
    }

    private static void heldBySigner() {
        for (int signer = 0; signer < 4; signer++) {
            AppDesk desk = new AppDesk();
            putDeclaring(desk, 4, 1, 2, 7, 2);
            putAsking(desk, 0, 1, signer, 7);
            CHECK.same("signer " + signer + ": holds(0, 7)", desk.holds(0, 7) ? 1 : 0, signer == 2 ? 1 : 0);
            desk.grant(0, 7);
            CHECK.same("a grant does not help, signer " + signer, desk.holds(0, 7) ? 1 : 0, signer == 2 ? 1 : 0);
        }
    }

    private static void ownPermission() {
        for (int level = 0; level < 3; level++) {
            AppDesk desk = new AppDesk();
            putDeclaring(desk, 5, 1, 0, 3, level, 3);
            CHECK.same("level " + level + ": holds(5, 3)", desk.holds(5, 3) ? 1 : 0, level == 1 ? 0 : 1);
            desk.grant(5, 3);
            CHECK.yes("level " + level + ", granted: holds(5, 3)", desk.holds(5, 3));
        }
    }

    private static void levelOfTheUpgrade() {
        AppDesk desk = new AppDesk();
        putAsking(desk, 5, 1, 0, 6);
        int[] levels = {1, 0, 2, 1, 0};
        for (int i = 0; i < levels.length; i++) {
            putDeclaring(desk, 1, i + 1, 1, 6, levels[i]);
            CHECK.same("level " + levels[i] + ": holds(5, 6)", desk.holds(5, 6) ? 1 : 0, levels[i] == 0 ? 1 : 0);
        }
        putAsking(desk, 1, 9, 1);
        CHECK.no("declared no more: holds(5, 6)", desk.holds(5, 6));
    }

    private static void holdsNobody() {
        Twins.stayAlike(CHECK, "asking about nobody", Twins::busyDesk, desk -> {
            for (int name : NO_APPS) {
                CHECK.no("holds(" + name + ", 0)", desk.holds(name, 0));
            }
        });
        AppDesk desk = new AppDesk();
        putDeclaring(desk, 1, 1, 0, 0, 0);
        putAsking(desk, 2, 1, 0, 0);
        CHECK.yes("holds(2, 0)", desk.holds(2, 0));
        desk.remove(2);
        CHECK.no("removed: holds(2, 0)", desk.holds(2, 0));
    }

    private static void holdsNoSuchOne() {
        AppDesk desk = new AppDesk();
        begin(desk, 3, 1, 0);
        for (int permission = 0; permission < 8; permission++) {
            desk.declare(permission, 0);
        }
        put(desk, 0, 1, 2, 3, 4, 5, 6, 7);
        for (int permission = 0; permission < 8; permission++) {
            CHECK.yes("holds(3, " + permission + ")", desk.holds(3, permission));
        }
        for (int permission : NO_PERMISSIONS) {
            CHECK.no("holds(3, " + permission + ")", desk.holds(3, permission));
        }
    }

    private static void heldByOperation() {
        AppDesk desk = new AppDesk();
        desk.draft(5, 1, 0);
        Words.code(desk, Words.holds(7), Words.holds(0), Words.DROP, Words.DROP, Words.jump(-4));
        desk.part(0, true, -1, 0);
        desk.declare(7, 1);
        put(desk, 7);
        desk.send(5, 0, 0);
        desk.deliver();
        for (int held = 0; held < 2; held++) {
            CHECK.steps("HOLDS 7", desk, 5);
            CHECK.same("app(5, 5)", desk.app(5, 5), held);
            CHECK.same("app(5, 4)", desk.app(5, 4), 1);
            CHECK.same("app(5, 3)", desk.app(5, 3), 1);
            CHECK.steps("HOLDS 0", desk, 5);
            CHECK.same("app(5, 5)", desk.app(5, 5), 0);
            CHECK.same("app(5, 4)", desk.app(5, 4), 2);
            CHECK.stepsMany("DROP, DROP, JUMP", desk, 5, 3);
            desk.grant(5, 7);
        }
    }
}
