import java.io.IOException;
import java.io.UncheckedIOException;
import java.nio.file.Files;
import java.nio.file.Path;

/** Counts and prints what is not as it is due. */
final class Check {
    private static final String THROWN = readThrows();
    private static int wrong = 0;
    private static String where = "";

    private Check() {
    }

    static void in(String part) {
        where = part;
    }

    static void is(Object due, Object got) {
        if (!due.equals(got)) {
            fail("due is " + due + ", but it was " + got);
        }
    }

    static void isTrue(boolean got, String what) {
        if (!got) {
            fail(what);
        }
    }

    /** The very class is due: what the machine throws is often of a class below it. */
    static void isThrown(Class<? extends RuntimeException> due, Runnable call) {
        try {
            call.run();
        } catch (RuntimeException thrown) {
            is(due, thrown.getClass());
            isWritten(thrown);
            return;
        }
        fail("due is " + due.getSimpleName() + ", but nothing was thrown");
    }

    /** Where a throw statement throws, no class of the library stands on top, and its text is one of the class. */
    static void isWritten(RuntimeException thrown) {
        StackTraceElement[] stack = thrown.getStackTrace();
        String top = stack.length > 0 ? stack[0].getClassName() : "the machine";
        isTrue(top.startsWith("CanalMaps"), thrown + " is thrown by " + top);
        isTrue(THROWN.contains("(\"" + thrown.getMessage() + "\")"), thrown + " is not written in the class");
    }

    /** What stands behind each throw of the class. */
    private static String readThrows() {
        StringBuilder written = new StringBuilder();
        try {
            for (String line : Files.readAllLines(Path.of("src/main/java/CanalMaps.java"))) {
                written.append(line.contains("throw new ") ? line : "");
            }
        } catch (IOException unreadable) {
            throw new UncheckedIOException(unreadable);
        }
        return written.toString();
    }

    static void fail(String what) {
        wrong++;
        StackTraceElement line = null;
        for (StackTraceElement element : new Throwable().getStackTrace()) {
            if (!element.getClassName().startsWith("Check")) {
                line = element;
                break;
            }
        }
        System.out.println(where + " " + line + ": " + what);
    }

    static void end() {
        System.out.println(wrong == 0 ? "all answers are as due" : wrong + " answers are not as due");
        if (wrong != 0) {
            System.exit(1);
        }
    }
}
