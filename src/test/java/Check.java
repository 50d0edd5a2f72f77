/** Counts the answers that are not the ones that are due, and ends a test with exit code 1 if there was one. */
final class Check {
    private final String test;
    private String sentence = "";
    private int wrong;

    Check(String test) {
        this.test = test;
    }

    /**
     * A test of its own for a sentence of the document or a case of it, told in the document's words with its promise's
     * number where it has one; what goes wrong in the test is told with it.
     */
    void about(String sentenceOrCase, Runnable ownTest) {
        sentence = "[" + sentenceOrCase + "] ";
        try {
            ownTest.run();
        } catch (RuntimeException e) {
            tell("the test broke off by " + e);
        }
        sentence = "";
    }

    private void tell(String what) {
        wrong++;
        System.out.println(test + ": " + sentence + what);
    }

    void same(String what, long got, long want) {
        if (got != want) {
            tell(what + " answered " + got + ", due is " + want);
        }
    }

    void yes(String what, boolean got) {
        same(what, got ? 1 : 0, 1);
    }

    void no(String what, boolean got) {
        same(what, got ? 1 : 0, 0);
    }

    void installs(String what, AppDesk desk, int name) {
        same(what + ": install()", installing(desk), name);
    }

    void badArgument(String what, AppDesk desk) {
        same(what + ": install() (-100 IllegalArgumentException, -200 IllegalStateException)", installing(desk), -100);
    }

    void badState(String what, AppDesk desk) {
        same(what + ": install() (-100 IllegalArgumentException, -200 IllegalStateException)", installing(desk), -200);
    }

    void steps(String what, AppDesk desk, int name) {
        same(what + ": step() (-200 IllegalStateException)", stepping(desk), name);
    }

    void stepFails(String what, AppDesk desk) {
        steps(what, desk, -200);
    }

    void stepsMany(String what, AppDesk desk, int name, int times) {
        for (int i = 1; i <= times; i++) {
            steps(what + ", step " + i, desk, name);
        }
    }

    void end() {
        System.out.println(test + ": " + (wrong == 0 ? "all answers are as due" : wrong + " answers are not as due"));
        if (wrong != 0) {
            System.exit(1);
        }
    }

    static int installing(AppDesk desk) {
        try {
            return desk.install();
        } catch (IllegalArgumentException e) {
            return -100;
        } catch (IllegalStateException e) {
            return -200;
        }
    }

    static int stepping(AppDesk desk) {
        try {
            return desk.step();
        } catch (IllegalStateException e) {
            return -200;
        }
    }
}
