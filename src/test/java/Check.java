import java.util.function.IntSupplier;

/** Compares answers with those that are due, prints what is wrong, and ends with 1 if anything was. */
final class Check {
    static final String ARGUMENT = "IllegalArgumentException";
    static final String STATE = "IllegalStateException";
    static final String INDEX = "IndexOutOfBoundsException";

    private static int wrong = 0;
    private static int count = 0;
    private static int sentences = 0;

    private Check() {
    }

    /** Does a test of one sentence of the document, and tells when that sentence is broken. */
    static void sentence(String text, Runnable test) {
        sentences++;
        int before = wrong;
        try {
            test.run();
        } catch (RuntimeException e) {
            wrong++;
            System.out.println("thrown: " + e + " at " + e.getStackTrace()[0]);
        }
        if (wrong != before) {
            System.out.println("BROKEN: " + text);
        }
    }

    static void same(String what, long got, long due) {
        count++;
        if (got != due) {
            wrong++;
            if (wrong <= 50) {
                System.out.println(what + " answered " + got + ", due is " + due);
            }
        }
    }

    static void yes(String what, boolean holds) {
        same(what, holds ? 1 : 0, 1);
    }

    static void refuses(String what, String exception, IntSupplier call) {
        count++;
        String thrown = "nothing";
        try {
            call.getAsInt();
        } catch (RuntimeException e) {
            thrown = e.getClass().getSimpleName();
        }
        if (!thrown.equals(exception)) {
            wrong++;
            System.out.println(what + " throws " + thrown + ", due is " + exception);
        }
    }

    static void refuses(String what, String exception, Runnable call) {
        refuses(what, exception, () -> {
            call.run();
            return 0;
        });
    }

    static void end() {
        if (sentences > 0) {
            System.out.println(sentences + " sentences");
        }
        System.out.println(wrong == 0 ? count + " answers are as due" : wrong + " of " + count + " answers are not as due");
        if (wrong != 0) {
            System.exit(1);
        }
    }
}
