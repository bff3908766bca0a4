/** Counts what is not as due in one test program, and ends it. */
final class Checks {
    private static final long MOST_MILLISECONDS = 300_000;
    private static int tests = 0;
    private static int done = 0;
    private static int wrong = 0;
    private static volatile String told = "";

    /** A call of the program, with or without an answer. */
    interface Call {
        Object make();
    }

    /** A call of the program that answers nothing. */
    interface Deed {
        void make();
    }

    static {
        // A call that fails to end has to fail the test, not to hold it up.
        Thread watch = new Thread(Checks::endLate);
        watch.setDaemon(true);
        watch.start();
    }

    private Checks() {
    }

    private static void endLate() {
        try {
            Thread.sleep(MOST_MILLISECONDS);
        } catch (InterruptedException e) {
            return;
        }
        System.out.println(told + "it does not end");
        Runtime.getRuntime().halt(1);
    }

    /** A test of its own, for a sentence of the document: if it breaks off, those behind it go on all the same. */
    static void test(String sentence, Deed body) {
        tests++;
        told = "\"" + sentence + "\": ";
        try {
            body.make();
        } catch (RuntimeException e) {
            done++;
            wrong("it breaks off with " + e + " at " + placeOf(e));
        }
        told = "";
    }

    private static String placeOf(RuntimeException e) {
        for (StackTraceElement place : e.getStackTrace()) {
            if (place.getClassName().endsWith("Test")) {
                return place.toString();
            }
        }
        return "no place of a test";
    }

    private static void wrong(String what) {
        wrong++;
        System.out.println(told + what);
    }

    static void same(String what, long got, long due) {
        done++;
        if (got != due) {
            wrong(what + " is " + got + ", due is " + due);
        }
    }

    static void holds(String what, boolean got) {
        same(what, got ? 1 : 0, 1);
    }

    /** The exception has to be of just that class: one of a narrower class was thrown by itself. */
    static void throwing(String what, Class<? extends RuntimeException> due, Call call) {
        done++;
        String got = outcome(call);
        if (!got.equals("throws." + due.getSimpleName())) {
            wrong(what + " answers " + got + ", due is throws." + due.getSimpleName());
        }
    }

    static void illegalArgument(String what, Call call) {
        throwing(what, IllegalArgumentException.class, call);
    }

    static void illegalState(String what, Call call) {
        throwing(what, IllegalStateException.class, call);
    }

    static void outOfBounds(String what, Call call) {
        throwing(what, IndexOutOfBoundsException.class, call);
    }

    static void unsupported(String what, Call call) {
        throwing(what, UnsupportedOperationException.class, call);
    }

    /** A call without an answer, as one with an answer. */
    static Call of(Deed deed) {
        return () -> {
            deed.make();
            return "nothing";
        };
    }

    static String outcome(Call call) {
        try {
            return String.valueOf(call.make());
        } catch (RuntimeException e) {
            return "throws." + e.getClass().getSimpleName();
        }
    }

    static void sameText(String what, String got, String due) {
        done++;
        if (!got.equals(due)) {
            wrong(what + " is " + got + ", due is " + due);
        }
    }

    static void end() {
        System.out.println((tests == 0 ? "" : tests + " tests, ") + done + " looked at, " + wrong + " wrong");
        if (wrong != 0 || done == 0) {
            System.exit(1);
        }
    }
}
