import java.util.concurrent.Callable;

/** Counts the answers that are not as due; each test ends by done(). */
final class Check {
    private static int wrong = 0;

    private Check() {
    }

    static void due(String call, long got, long want) {
        if (got != want) {
            wrong++;
            System.out.println(call + " answered " + got + ", due is " + want);
        }
    }

    static void threw(String call, Exception thrown, long want) {
        wrong++;
        System.out.println(call + " threw " + thrown.getClass().getName() + ", due is " + want);
    }

    static void illegal(String call, Callable<?> run) {
        String got;
        try {
            got = "answered " + run.call();
        } catch (Exception e) {
            // The very class is asked for: a class below it would be another answer.
            if (e.getClass() == IllegalArgumentException.class) {
                return;
            }
            got = "threw " + e.getClass().getName();
        }
        wrong++;
        System.out.println(call + " " + got + ", due is IllegalArgumentException");
    }

    static void done() {
        if (wrong != 0) {
            System.out.println(wrong + " answers are not as due");
            System.exit(1);
        }
    }
}
