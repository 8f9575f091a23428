import java.util.function.Consumer;
import java.util.function.Supplier;

/** Counts the answers that are not as due; each test ends with done(). */
final class Check {
    static final String ARGUMENT = "IllegalArgumentException";
    static final String STATE = "IllegalStateException";
    static final String INDEX = "IndexOutOfBoundsException";

    interface Call {
        void run();
    }

    private static int asked = 0;
    private static int wrong = 0;

    private Check() {
    }

    static void same(String call, long got, long want) {
        asked++;
        if (got != want) {
            report(call + " answered " + got + ", due is " + want);
        }
    }

    static void same(String call, boolean got, boolean want) {
        same(call, got ? 1 : 0, want ? 1 : 0);
    }

    static void same(String call, double got, double want) {
        asked++;
        if (Double.compare(got, want) != 0) {
            report(call + " answered " + got + ", due is " + want);
        }
    }

    static void same(String call, String got, String want) {
        asked++;
        if (!got.equals(want)) {
            report(call + " answered " + got + ", due is " + want);
        }
    }

    static void badArgument(String call, Call body) {
        same(call, outcome(body), ARGUMENT);
    }

    static void badState(String call, Call body) {
        same(call, outcome(body), STATE);
    }

    static void badIndex(String call, Call body) {
        same(call, outcome(body), INDEX);
    }

    /** The call throws, changes nothing that the digest tells, and saves no state. */
    static void changesNothing(String call, FeeDocket docket, Call body) {
        long before = docket.digest();
        same(call + " is refused", !outcome(body).isEmpty(), true);
        same("digest behind " + call, docket.digest(), before);
    }

    /** The call throws this exception, and its docket tells the same as one that it was not called on. */
    static void refused(String call, String exception, Supplier<FeeDocket> made, Consumer<FeeDocket> body) {
        FeeDocket touched = made.get();
        same(call, outcome(() -> body.accept(touched)), exception);
        same("the docket behind " + call, Picture.of(touched), Picture.of(made.get()));
    }

    static void done(String test) {
        System.out.println(test + ": " + asked + " answers, " + wrong + " wrong");
        if (wrong != 0) {
            System.exit(1);
        }
    }

    static String outcome(Call body) {
        try {
            body.run();
            return "";
        } catch (RuntimeException thrown) {
            return thrown.getClass().getSimpleName();
        }
    }

    private static void report(String text) {
        wrong++;
        if (wrong <= 20) {
            System.out.println(text);
        }
    }
}
