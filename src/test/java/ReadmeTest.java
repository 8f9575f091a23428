import java.io.IOException;
import java.lang.reflect.Method;
import java.lang.reflect.Modifier;
import java.nio.file.Files;
import java.nio.file.Path;
import java.util.ArrayList;
import java.util.List;
import java.util.TreeSet;
import java.util.function.Consumer;

/** What README.md tells a caller holds: its example, the order of the calls, and the exceptions. */
public final class ReadmeTest {
    private static final String EXAMPLE_BEGINS = "// The README's example begins.";
    private static final String EXAMPLE_ENDS = "// The README's example ends.";

    public static void main(String[] args) throws IOException {
        theExampleAnswersAsItsCommentsSay();
        theExampleIsTheOneOfTheReadme();
        holidaysComeBeforeTheRights();
        feesCanBeSetAtAnyTime();
        anEmptyTextOpensTheHolidaysAgain();
        theTextTakesThePlaceOfTheRights();
        undoTakesBackFourCalls();
        eachExceptionIsToldWithItsMethods();
        theFirstOfTheTableIsThrown();
        otherMethodsThrowNothing();
        Check.done("ReadmeTest");
    }

    private static void theExampleAnswersAsItsCommentsSay() {
        // The README's example begins.
        FeeDocket docket = new FeeDocket();
        int holidays = docket.holiday(12, 25);        // 1: holidays come before the rights
        int right = docket.file(false);               // 0: filed today, on day 0, not small
        int due = docket.due(right, 1, false);        // 366: the day on which the first fee is due
        docket.pass(due);                             // today becomes day 366
        int paid = docket.pay(right);                 // 120
        int lapses = docket.pass(547);                // 1: the second fee's grace ended on day 912
        int users = docket.use(right, 3);             // 1: user 3 begins while the right is lapsed
        docket.pass(87);                              // today becomes day 1000
        int revived = docket.revive(right);           // 510: the fee 140, the surcharge 70 and the petition 300
        boolean stood = docket.stood(right, 913);     // false: the gap stays
        boolean stands = docket.stood(right, 1000);   // true
        int isProtected = docket.user(right, 3);      // 2: user 3 began in the gap
        int states = docket.undo();                   // 3: the right is lapsed again; three more calls can be undone
        int lapsed = docket.right(right, 7);          // 1
        // The README's example ends.
        int[] answers = {holidays, right, due, paid, lapses, users, revived, isProtected, states, lapsed};
        int[] wanted = {1, 0, 366, 120, 1, 1, 510, 2, 3, 1};
        for (int i = 0; i < wanted.length; i++) {
            Check.same("answer " + i + " of the example", answers[i], wanted[i]);
        }
        Check.same("stood", stood, false);
        Check.same("stands", stands, true);
        Check.same("the second fee's grace", docket.due(right, 2, true), 912);
        Check.same("today", docket.value(0), 1000);
    }

    private static void theExampleIsTheOneOfTheReadme() throws IOException {
        List<String> shown = between(Path.of("README.md"), "```java", "```");
        List<String> run = between(Path.of("src/test/java/ReadmeTest.java"), EXAMPLE_BEGINS, EXAMPLE_ENDS);
        Check.same("the README has an example", shown.isEmpty(), false);
        Check.same("the README's example", shown.toString(), run.toString());
    }

    private static List<String> between(Path file, String begin, String end) throws IOException {
        List<String> found = new ArrayList<>();
        boolean isInside = false;
        for (String line : Files.readAllLines(file)) {
            String text = line.strip();
            if (isInside && text.equals(end)) {
                return found;
            }
            if (isInside) {
                found.add(text);
            }
            isInside = isInside || text.equals(begin);
        }
        return found;
    }

    // "with rights in the docket, none can be made or taken away"
    private static void holidaysComeBeforeTheRights() {
        FeeDocket docket = new FeeDocket();
        Check.same("made", docket.holiday(12, 25), 1);
        Check.same("taken away by a second call", docket.holiday(12, 25), 0);
        docket.holiday(12, 25);
        docket.file(false);
        Check.badState("another one", () -> docket.holiday(12, 26));
        Check.badState("the same one", () -> docket.holiday(12, 25));
        docket.undo();
        Check.same("behind undo() of the filing", docket.holiday(12, 26), 2);
    }

    // "at any time", "What has been paid before stays as it was."
    private static void feesCanBeSetAtAnyTime() {
        FeeDocket docket = Dockets.paidUpTo(1);
        Check.same("setFees with a right", docket.setFees(1, 2, 3, 4), 100);
        Check.same("what was paid", docket.value(5), 120);
        Check.same("the next fee", docket.right(0, 6), 5);
    }

    // "An empty text leaves no rights, and holidays can be changed again."
    private static void anEmptyTextOpensTheHolidaysAgain() {
        FeeDocket docket = Dockets.withTenRights();
        Check.badState("with rights", () -> docket.holiday(1, 1));
        Check.same("parse()", docket.parse(), 0);
        Check.same("without rights", docket.holiday(1, 1), 1);
    }

    private static void theTextTakesThePlaceOfTheRights() {
        FeeDocket docket = Dockets.busy();
        docket.clearText();
        Dockets.write(docket, "5-12-31s;6-1-2;");
        Check.same("parse()", docket.parse(), 2);
        Check.same("today", docket.date(docket.value(0)), 60102);
        Check.same("the first is small", docket.right(0, 1), 1);
        Check.same("the second is not", docket.right(1, 1), 0);
        Check.same("all that has been paid", docket.value(5), 0);
        Check.same("holidays stay", docket.value(4), 2);
        Check.same("fees stay", docket.value(8), 101);
    }

    // "each call takes back the last one that is not yet undone, at most four in a row"
    private static void undoTakesBackFourCalls() {
        FeeDocket docket = new FeeDocket();
        for (int days = 1; days <= 5; days++) {
            docket.pass(days);
        }
        int[] todays = {10, 6, 3, 1};
        for (int i = 0; i < 4; i++) {
            Check.same("undo()", docket.undo(), 3 - i);
            Check.same("today", docket.value(0), todays[i]);
        }
        Check.badState("a fifth", docket::undo);
    }

    // Each table row, each line of IllegalStateException, and the methods that throw nothing.
    private static void eachExceptionIsToldWithItsMethods() throws IOException {
        TreeSet<String> forState = new TreeSet<>();
        for (String line : Files.readAllLines(Path.of("README.md"))) {
            String[] cells = line.split("\\|");
            if (cells.length == 4 && cells[1].contains("`") && cells[3].contains("`")) {
                String exception = quoted(cells[1]).first();
                Check.same(exception, quoted(cells[3]).toString(), declaring(exception).toString());
            } else if (line.matches("- `[a-z]+`: .*")) {
                forState.add(quoted(line).first());
            } else if (line.startsWith("The other methods")) {
                Check.same("no exception", quoted(line.split("\\)")[0]).toString(), declaring("").toString());
            }
        }
        Check.same(Check.STATE, forState.toString(), declaring(Check.STATE).toString());
    }

    private static TreeSet<String> quoted(String text) {
        TreeSet<String> found = new TreeSet<>();
        String[] parts = text.split("`");
        for (int i = 1; i < parts.length; i += 2) {
            found.add(parts[i]);
        }
        return found;
    }

    /** The public methods that declare this exception; those that declare none for "". */
    private static TreeSet<String> declaring(String exception) {
        TreeSet<String> found = new TreeSet<>();
        for (Method method : FeeDocket.class.getDeclaredMethods()) {
            if (!Modifier.isPublic(method.getModifiers())) {
                continue;
            }
            Class<?>[] declared = method.getExceptionTypes();
            if (declared.length == 0 && exception.isEmpty()) {
                found.add(method.getName());
            }
            for (Class<?> type : declared) {
                if (type.getSimpleName().equals(exception)) {
                    found.add(method.getName());
                }
            }
        }
        return found;
    }

    // "If several apply, the one that stands first in the table is thrown."
    private static void theFirstOfTheTableIsThrown() {
        busyRefuses("no right, no user, no state", Check.INDEX, docket -> docket.use(4, 10));
        busyRefuses("no user, no state", Check.ARGUMENT, docket -> docket.use(0, 10));
        busyRefuses("no state", Check.STATE, docket -> docket.use(0, 0));
        busyRefuses("no day of January, and rights", Check.ARGUMENT, docket -> docket.holiday(1, 32));
        busyRefuses("rights", Check.STATE, docket -> docket.holiday(1, 2));
    }

    private static void otherMethodsThrowNothing() {
        List<FeeDocket> dockets = List.of(new FeeDocket(), Dockets.busy(), Dockets.withTenRights(),
            Dockets.on(Dockets.END_OF_YEAR_75), Dockets.withText("x"));
        for (FeeDocket docket : dockets) {
            Check.same("nothing is thrown", Check.outcome(() -> {
                docket.payAll();
                docket.nextDue();
                docket.digest();
                docket.parse();
                docket.clearText();
            }), "");
        }
        Check.same("a syntax error is answered", Dockets.withText("1-13-1;").parse(), -12);
        Check.same("NONE", new FeeDocket().nextDue(), FeeDocket.NONE);
    }

    private static void busyRefuses(String call, String exception, Consumer<FeeDocket> body) {
        Check.refused(call, exception, Dockets::busy, body);
    }
}
