/** Counts what is not as due in one test program, and ends it. */
final class Checks {
    private static int done = 0;
    private static int wrong = 0;

    /** A call of the program, with or without an answer. */
    interface Call {
        Object make();
    }

    private Checks() {
    }

    static void same(String what, long got, long due) {
        done++;
        if (got != due) {
            wrong++;
            System.out.println(what + " is " + got + ", due is " + due);
        }
    }

    static void holds(String what, boolean got) {
        same(what, got ? 1 : 0, 1);
    }

    /** The exception has to be of just that class: one of a narrower class was thrown by itself. */
    static void throwing(String what, Class<? extends RuntimeException> due, Call call) {
        done++;
        String got = outcome(call);
        if (!got.equals("throws." + due.getSimpleName())) {
            wrong++;
            System.out.println(what + " answers " + got + ", due is throws." + due.getSimpleName());
        }
    }

    static void illegalArgument(String what, Call call) {
        throwing(what, IllegalArgumentException.class, call);
    }

    static void illegalState(String what, Call call) {
        throwing(what, IllegalStateException.class, call);
    }

    static void outOfBounds(String what, Call call) {
        throwing(what, IndexOutOfBoundsException.class, call);
    }

    static void unsupported(String what, Call call) {
        throwing(what, UnsupportedOperationException.class, call);
    }

    static String outcome(Call call) {
        try {
            return String.valueOf(call.make());
        } catch (RuntimeException e) {
            return "throws." + e.getClass().getSimpleName();
        }
    }

    static void sameText(String what, String got, String due) {
        done++;
        if (!got.equals(due)) {
            wrong++;
            System.out.println(what + " is " + got + ", due is " + due);
        }
    }

    static void end() {
        System.out.println(done + " looked at, " + wrong + " wrong");
        if (wrong != 0 || done == 0) {
            System.exit(1);
        }
    }
}
