import java.util.concurrent.Callable;

/** Counts the answers that are not as due; each test ends by done(). */
final class Check {
    private static int wrong = 0;
    private static int tests = 0;
    private static String told = "";

    private Check() {
    }

    /** One sentence of the document, or the part of it that names one case, and the calls that show it. */
    static void test(String sentence, Runnable calls) {
        told = "[" + sentence + "] ";
        tests++;
        try {
            calls.run();
        } catch (RuntimeException e) {
            fail("threw " + e + " at " + e.getStackTrace()[0] + ", where no exception is due");
        }
        told = "";
    }

    static void due(String call, long got, long want) {
        if (got != want) {
            fail(call + " answered " + got + ", due is " + want);
        }
    }

    static void threw(String call, Exception thrown, long want) {
        fail(call + " threw " + thrown.getClass().getName() + ", due is " + want);
    }

    static void illegal(String call, Callable<?> run) {
        String got;
        try {
            got = "answered " + run.call();
        } catch (Exception e) {
            // The very class is asked for: a class below it would be another answer.
            if (e.getClass() == IllegalArgumentException.class) {
                return;
            }
            got = "threw " + e.getClass().getName();
        }
        fail(call + " " + got + ", due is IllegalArgumentException");
    }

    static void fail(String what) {
        wrong++;
        System.out.println(told + what);
    }

    static void done() {
        if (wrong != 0) {
            System.out.println(wrong + " answers are not as due");
            System.exit(1);
        }
        if (tests != 0) {
            System.out.println(tests + " sentences hold");
        }
    }
}
