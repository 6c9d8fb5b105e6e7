/** Counts and prints what is not as it is due. */
final class Check {
    private static int wrong = 0;
    private static String where = "";

    private Check() {
    }

    static void in(String part) {
        where = part;
    }

    static void is(Object due, Object got) {
        if (!due.equals(got)) {
            fail("due is " + due + ", but it was " + got);
        }
    }

    static void isTrue(boolean got, String what) {
        if (!got) {
            fail(what);
        }
    }

    /** The very class is due: what the machine throws is often of a class below it. */
    static void isThrown(Class<? extends RuntimeException> due, Runnable call) {
        try {
            call.run();
        } catch (RuntimeException thrown) {
            is(due, thrown.getClass());
            return;
        }
        fail("due is " + due.getSimpleName() + ", but nothing was thrown");
    }

    static void fail(String what) {
        wrong++;
        StackTraceElement line = null;
        for (StackTraceElement element : new Throwable().getStackTrace()) {
            if (!element.getClassName().startsWith("Check")) {
                line = element;
                break;
            }
        }
        System.out.println(where + " " + line + ": " + what);
    }

    static void end() {
        System.out.println(wrong == 0 ? "all answers are as due" : wrong + " answers are not as due");
        if (wrong != 0) {
            System.exit(1);
        }
    }
}
