/** Counts the checks of one test class, prints those that fail, and ends the run with exit code 1 if one did. */
final class Checks {
    interface Call {
        void run();
    }

    private static int made = 0;
    private static int wrong = 0;

    private Checks() {
    }

    static void equal(String what, long got, long due) {
        count(got == due, what + " answered " + got + ", due is " + due);
    }

    static void same(String what, double got, double due) {
        count(got == due, what + " answered " + got + ", due is " + due);
    }

    static void holds(String what, boolean truth) {
        count(truth, what);
    }

    /** The exception must be of the very class, and thrown by the class under test, not by the machine or a library. */
    static void fails(String what, Class<? extends RuntimeException> due, Call call) {
        Class<?> got = null;
        String thrower = "SelectoRoute";
        try {
            call.run();
        } catch (RuntimeException e) {
            got = e.getClass();
            thrower = e.getStackTrace()[0].getClassName();
        }
        count(got == due, what + " threw " + got + ", due is " + due);
        count(thrower.equals("SelectoRoute"), what + " was thrown by " + thrower);
    }

    /** The call must end without an exception; what it answers is looked at elsewhere. */
    static void answers(String what, Call call) {
        Class<?> got = null;
        try {
            call.run();
        } catch (RuntimeException e) {
            got = e.getClass();
        }
        count(got == null, what + " threw " + got + ", due is an answer");
    }

    static void outOfBounds(String what, Call call) {
        fails(what, IndexOutOfBoundsException.class, call);
    }

    private static void count(boolean right, String what) {
        made++;
        if (!right) {
            wrong++;
            System.out.println("  wrong: " + what);
        }
    }

    static void finish() {
        System.out.println("  " + made + " checks, " + wrong + " wrong");
        if (wrong > 0 || made == 0) {
            System.exit(1);
        }
    }
}
