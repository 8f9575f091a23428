/** Counts the answers that are not as due; each test ends with done(). */
final class Check {
    interface Call {
        void run();
    }

    private static int asked = 0;
    private static int wrong = 0;

    private Check() {
    }

    static void same(String call, long got, long want) {
        asked++;
        if (got != want) {
            report(call + " answered " + got + ", due is " + want);
        }
    }

    static void same(String call, boolean got, boolean want) {
        same(call, got ? 1 : 0, want ? 1 : 0);
    }

    static void same(String call, double got, double want) {
        asked++;
        if (Double.compare(got, want) != 0) {
            report(call + " answered " + got + ", due is " + want);
        }
    }

    static void same(String call, String got, String want) {
        asked++;
        if (!got.equals(want)) {
            report(call + " answered " + got + ", due is " + want);
        }
    }

    static void badArgument(String call, Call body) {
        same(call, outcome(body), "IllegalArgumentException");
    }

    static void badState(String call, Call body) {
        same(call, outcome(body), "IllegalStateException");
    }

    static void badIndex(String call, Call body) {
        same(call, outcome(body), "IndexOutOfBoundsException");
    }

    /** The call throws, changes nothing that the digest tells, and saves no state. */
    static void changesNothing(String call, FeeDocket docket, Call body) {
        long before = docket.digest();
        same(call + " is refused", !outcome(body).isEmpty(), true);
        same("digest behind " + call, docket.digest(), before);
    }

    static void done(String test) {
        System.out.println(test + ": " + asked + " answers, " + wrong + " wrong");
        if (wrong != 0) {
            System.exit(1);
        }
    }

    static String outcome(Call body) {
        try {
            body.run();
            return "";
        } catch (RuntimeException thrown) {
            return thrown.getClass().getSimpleName();
        }
    }

    private static void report(String text) {
        wrong++;
        if (wrong <= 20) {
            System.out.println(text);
        }
    }
}
