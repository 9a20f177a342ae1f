/** Counts the answers that are not as due; a test makes one, and ends with end(). */
final class Checks {
    /** A call that may throw. */
    interface Call {
        long answer();
    }

    private int made = 0;
    private int wrong = 0;

    void same(String what, long got, long want) {
        made++;
        if (got != want) {
            wrong++;
            System.out.println(what + ": got " + got + ", due is " + want);
        }
    }

    void same(String what, boolean got, boolean want) {
        same(what, got ? 1 : 0, want ? 1 : 0);
    }

    void same(String what, double got, double want) {
        made++;
        if (Double.compare(got, want) != 0) {
            wrong++;
            System.out.println(what + ": got " + got + ", due is " + want);
        }
    }

    void holds(String what, boolean that) {
        same(what, that, true);
    }

    /** The call throws just this exception, and changes neither the state nor the length of the text. */
    void refuses(String what, Class<? extends Exception> due, CairnGame game, Call call) {
        long before = game.digest();
        String got = "nothing";
        try {
            call.answer();
        } catch (RuntimeException e) {
            got = e.getClass().getSimpleName();
        }
        made++;
        if (!got.equals(due.getSimpleName())) {
            wrong++;
            System.out.println(what + ": threw " + got + ", due is " + due.getSimpleName());
        }
        same(what + ", digest after it", game.digest(), before);
    }

    int made() {
        return made;
    }

    void end() {
        System.out.println(made + " checks, " + wrong + " wrong");
        if (wrong != 0 || made == 0) {
            System.exit(1);
        }
    }
}
