import java.util.function.Consumer;
import java.util.function.Supplier;

/** "Terms", undo and exceptions: a test for each sentence, with the boundaries that it names. */
public final class TermsUndoTest {
    public static void main(String[] args) {
        undoableCallsSaveTheStateBefore();
        otherCallsSaveNothing();
        callsThatThrowSaveNothing();
        parsingAnErrorSavesNothing();
        callsThatChangeNothingSave();
        noStateIsSavedAtFirst();
        fourStatesAreSaved();
        theFifthDropsTheOldest();
        manyDropTheOldestEachTime();
        undoneStatesMakeRoom();
        theTextIsNotSaved();
        allElseIsSaved();
        savedStatesDoNotChange();
        throwingCallsChangeNothing();
        theFirstListedExceptionIsThrown();
        Check.done("TermsUndoTest");
    }

    // "Each successful call of a method whose description says "undoable" saves the state from before the call"
    private static void undoableCallsSaveTheStateBefore() {
        saves("holiday", FeeDocket::new, docket -> docket.holiday(1, 1));
        saves("holiday taken away", () -> withHoliday(1, 1), docket -> docket.holiday(1, 1));
        saves("file", FeeDocket::new, docket -> docket.file(true));
        saves("pass", () -> Dockets.withRights(false), docket -> docket.pass(600));
        saves("pay", TermsUndoTest::payable, docket -> docket.pay(0));
        saves("payAll", TermsUndoTest::payable, FeeDocket::payAll);
        saves("revive", TermsUndoTest::lapsed, docket -> docket.revive(0));
        saves("use", TermsUndoTest::lapsed, docket -> docket.use(0, 9));
        saves("setFees", TermsUndoTest::payable, docket -> docket.setFees(1, 2, 3, 4));
        saves("parse", TermsUndoTest::withReadableText, FeeDocket::parse);
    }

    // The docket of at most three saved states has one more, and undo leads back to all that was told before.
    private static void saves(String call, Supplier<FeeDocket> made, Consumer<FeeDocket> body) {
        int before = savedStates(made.get());
        FeeDocket docket = made.get();
        body.accept(docket);
        Check.same("undo() behind " + call, docket.undo(), before);
        Check.same("the docket with " + call + " undone", Picture.of(docket), Picture.of(made.get()));
        FeeDocket counted = made.get();
        body.accept(counted);
        Check.same("the saved states behind " + call, savedStates(counted), before + 1);
    }

    private static void otherCallsSaveNothing() {
        savesNothing("date", docket -> docket.date(0));
        savesNothing("day", docket -> docket.day(0, 1, 1));
        savesNothing("later", docket -> docket.later(0, 1));
        savesNothing("putOff", docket -> docket.putOff(0));
        savesNothing("right", docket -> docket.right(0, 0));
        savesNothing("due", docket -> docket.due(0, 1, true));
        savesNothing("stood", docket -> docket.stood(0, 0));
        savesNothing("covered", docket -> docket.covered(0, 0));
        savesNothing("user", docket -> docket.user(0, 0));
        savesNothing("value", docket -> docket.value(0));
        savesNothing("nextDue", FeeDocket::nextDue);
        savesNothing("costs", docket -> docket.costs(4000));
        savesNothing("lapsing", docket -> docket.lapsing(4000));
        savesNothing("share", docket -> docket.share(0));
        savesNothing("digest", FeeDocket::digest);
        FeeDocket text = payable();
        int before = savedStates(payable());
        text.append('1');
        text.clearText();
        Check.same("append and clearText", savedStates(text), before);
    }

    private static void savesNothing(String call, Consumer<FeeDocket> body) {
        FeeDocket docket = payable();
        body.accept(docket);
        Check.same("the docket behind " + call, Picture.of(docket), Picture.of(payable()));
    }

    // "Each successful call"
    private static void callsThatThrowSaveNothing() {
        FeeDocket docket = new FeeDocket();
        Check.badState("undo()", docket::undo);
        Check.badArgument("holiday", () -> docket.holiday(0, 1));
        Check.badArgument("pass", () -> docket.pass(0));
        Check.badIndex("pay", () -> docket.pay(0));
        Check.badIndex("revive", () -> docket.revive(0));
        Check.badIndex("use", () -> docket.use(0, 0));
        Check.badArgument("setFees", () -> docket.setFees(-1, 0, 0, 0));
        Check.same("saved states", savedStates(docket), 0);
        docket.file(false);
        Check.badState("holiday", () -> docket.holiday(1, 1));
        Check.badState("pay", () -> docket.pay(0));
        Check.badState("revive", () -> docket.revive(0));
        Check.badState("use", () -> docket.use(0, 0));
        Check.same("the state saved by file", savedStates(docket), 1);
    }

    private static void parsingAnErrorSavesNothing() {
        FeeDocket docket = Dockets.withText("1-1-");
        Check.same("parse()", docket.parse(), -14);
        Check.same("saved states", savedStates(docket), 0);
    }

    // "even if the call changes nothing"
    private static void callsThatChangeNothingSave() {
        FeeDocket docket = new FeeDocket();
        docket.setFees(100, 20, 50, 300);
        docket.payAll();
        docket.parse();
        Check.same("setFees, payAll and parse", savedStates(docket), 3);
        FeeDocket paid = Dockets.paidUpTo(1);
        Dockets.passTo(paid, 500);
        int before = savedStates(Dockets.paidUpTo(1)) + 1;
        Check.same("nothing to pay", paid.payAll(), 0);
        Check.same("one is saved", paid.undo(), Math.min(3, before));
        FeeDocket text = Dockets.withText("0-1-1;");
        text.parse();
        text.parse();
        Check.same("the same rights again", savedStates(text), 2);
    }

    // "at most 4 states are saved": none
    private static void noStateIsSavedAtFirst() {
        FeeDocket docket = new FeeDocket();
        Check.badState("undo()", docket::undo);
        Check.badState("undo() again", docket::undo);
        docket.pass(1);
        Check.same("one", docket.undo(), 0);
        Check.badState("none is left", docket::undo);
    }

    // "at most 4 states are saved": four
    private static void fourStatesAreSaved() {
        for (int calls = 1; calls <= 4; calls++) {
            FeeDocket docket = passed(calls);
            for (int left = calls - 1; left >= 0; left--) {
                Check.same("undo() of " + calls, docket.undo(), left);
                Check.same("today", docket.value(0), left);
            }
            Check.badState("none is left", docket::undo);
            Check.same("today", docket.value(0), 0);
        }
    }

    // "and the oldest is dropped first"
    private static void theFifthDropsTheOldest() {
        FeeDocket docket = passed(5);
        for (int left = 3; left >= 0; left--) {
            Check.same("undo()", docket.undo(), left);
            Check.same("today", docket.value(0), left + 1);
        }
        Check.badState("the first state is dropped", docket::undo);
        Check.same("today", docket.value(0), 1);
    }

    private static void manyDropTheOldestEachTime() {
        for (int calls = 6; calls <= 14; calls++) {
            FeeDocket docket = passed(calls);
            for (int left = 3; left >= 0; left--) {
                Check.same("undo() of " + calls, docket.undo(), left);
                Check.same("today", docket.value(0), calls - 4 + left);
            }
            Check.badState("none is left", docket::undo);
        }
    }

    private static void undoneStatesMakeRoom() {
        FeeDocket docket = passed(6);
        docket.undo();
        docket.undo();
        // Of days 2 and 3, then of days 4, 14 and 24: day 2 is dropped.
        docket.pass(10);
        docket.pass(10);
        docket.pass(10);
        int[] days = {24, 14, 4, 3};
        for (int i = 0; i < days.length; i++) {
            Check.same("undo()", docket.undo(), 3 - i);
            Check.same("today", docket.value(0), days[i]);
        }
        Check.badState("none is left", docket::undo);
    }

    // "The saved state contains everything except the text."
    private static void theTextIsNotSaved() {
        FeeDocket docket = Dockets.withText("1-2-");
        docket.pass(1);
        Dockets.write(docket, "3;");
        docket.undo();
        Check.same("the bytes that were appended stay", docket.parse(), 1);
        docket.clearText();
        docket.undo();
        Check.same("the emptied text stays empty", docket.clearText(), 0);
        docket.append('x');
        docket.setFees(1, 1, 1, 1);
        docket.clearText();
        docket.append('0');
        docket.undo();
        Check.same("the other byte stays", docket.parse(), -11);
    }

    private static void allElseIsSaved() {
        // Each call drops the oldest of the busy docket's four saved states.
        FeeDocket docket = Dockets.busy();
        docket.parse();
        docket.undo();
        FeeDocket other = Dockets.busy();
        other.pass(1);
        other.undo();
        Check.same("the docket with parse undone", Picture.of(docket), Picture.of(other));
        FeeDocket fees = Dockets.busy();
        fees.setFees(1, 2, 3, 4);
        fees.payAll();
        fees.pass(1500);
        fees.undo();
        fees.undo();
        fees.undo();
        FeeDocket untouched = Dockets.busy();
        Check.same("the shares", shares(fees), shares(untouched));
        // The number of saved states, the last value of the digest, is 1 instead of 4.
        Check.same("the digest", fees.digest() + 3, untouched.digest());
    }

    private static void savedStatesDoNotChange() {
        FeeDocket docket = new FeeDocket();
        docket.file(false);
        docket.pass(600);
        docket.use(0, 1);
        docket.revive(0);
        docket.undo();
        docket.use(0, 2);
        docket.undo();
        docket.undo();
        Check.same("no users", docket.right(0, 10), 0);
        Check.same("lapsed", docket.right(0, 7), 1);
        docket.undo();
        Check.same("not lapsed", docket.right(0, 7), 0);
        Check.same("today", docket.value(0), 0);
        docket.undo();
        Check.same("no rights", docket.value(1), 0);
    }

    // "A call that throws an exception changes nothing."
    private static void throwingCallsChangeNothing() {
        refusedByAll("date(-1)", Check.ARGUMENT, docket -> docket.date(-1));
        refusedByAll("day(80, 1, 1)", Check.ARGUMENT, docket -> docket.day(80, 1, 1));
        refusedByAll("later(0, 301)", Check.ARGUMENT, docket -> docket.later(0, 301));
        refusedByAll("putOff(28855)", Check.ARGUMENT, docket -> docket.putOff(28855));
        refusedByAll("holiday(2, 30)", Check.ARGUMENT, docket -> docket.holiday(2, 30));
        refusedByAll("holiday(1, 1)", Check.STATE, docket -> docket.holiday(1, 1));
        refusedByAll("pass(4001)", Check.ARGUMENT, docket -> docket.pass(4001));
        refusedByAll("pay(1), lapsed", Check.STATE, docket -> docket.pay(1));
        refusedByAll("pay(4)", Check.INDEX, docket -> docket.pay(4));
        refusedByAll("revive(0), standing", Check.STATE, docket -> docket.revive(0));
        refusedByAll("use(1, 3), begun", Check.STATE, docket -> docket.use(1, 3));
        refusedByAll("use(1, 10)", Check.ARGUMENT, docket -> docket.use(1, 10));
        refusedByAll("setFees", Check.ARGUMENT, docket -> docket.setFees(0, 0, 0, 10000));
        refusedByAll("right(0, 13)", Check.ARGUMENT, docket -> docket.right(0, 13));
        refusedByAll("due(0, 20, true)", Check.ARGUMENT, docket -> docket.due(0, 20, true));
        refusedByAll("stood(0, 602)", Check.ARGUMENT, docket -> docket.stood(0, 602));
        refusedByAll("covered(0, 602)", Check.ARGUMENT, docket -> docket.covered(0, 602));
        refusedByAll("user(0, 10)", Check.ARGUMENT, docket -> docket.user(0, 10));
        refusedByAll("value(12)", Check.ARGUMENT, docket -> docket.value(12));
        refusedByAll("costs(4001)", Check.ARGUMENT, docket -> docket.costs(4001));
        refusedByAll("lapsing(4001)", Check.ARGUMENT, docket -> docket.lapsing(4001));
        refusedByAll("share(4)", Check.INDEX, docket -> docket.share(4));
        refusedByAll("append(128)", Check.ARGUMENT, docket -> docket.append(128));
    }

    private static void refusedByAll(String call, String exception, Consumer<FeeDocket> body) {
        Check.refused(call, exception, Dockets::busy, body);
    }

    // "If several exceptions apply, the one that is listed first is thrown."
    private static void theFirstListedExceptionIsThrown() {
        refusedByAll("holiday: argument, then state", Check.ARGUMENT, docket -> docket.holiday(13, 1));
        Check.refused("holiday: argument, then state", Check.ARGUMENT, Dockets::withSixHolidays,
            docket -> docket.holiday(4, 31));
        Check.refused("pass: argument, then state", Check.ARGUMENT, () -> Dockets.on(Dockets.END_OF_YEAR_75),
            docket -> docket.pass(4001));
        refusedByAll("use: index, argument, then state", Check.INDEX, docket -> docket.use(4, 10));
        refusedByAll("use: argument, then state", Check.ARGUMENT, docket -> docket.use(0, 10));
        refusedByAll("right: index, then argument", Check.INDEX, docket -> docket.right(4, 13));
        refusedByAll("due: index, then argument", Check.INDEX, docket -> docket.due(4, 0, false));
        refusedByAll("stood: index, then argument", Check.INDEX, docket -> docket.stood(4, -1));
        refusedByAll("covered: index, then argument", Check.INDEX, docket -> docket.covered(-1, 602));
        refusedByAll("user: index, then argument", Check.INDEX, docket -> docket.user(-1, -1));
        Check.refused("append: argument, then state", Check.ARGUMENT,
            () -> Dockets.withText("1".repeat(100)), docket -> docket.append(-1));
    }

    private static FeeDocket passed(int calls) {
        FeeDocket docket = new FeeDocket();
        for (int i = 0; i < calls; i++) {
            docket.pass(1);
        }
        return docket;
    }

    private static FeeDocket withHoliday(int month, int day) {
        FeeDocket docket = new FeeDocket();
        docket.holiday(month, day);
        return docket;
    }

    private static FeeDocket payable() {
        FeeDocket docket = Dockets.withRights(false, true);
        docket.pass(400);
        return docket;
    }

    private static FeeDocket lapsed() {
        FeeDocket docket = Dockets.withRights(false);
        docket.pass(600);
        docket.use(0, 1);
        return docket;
    }

    private static FeeDocket withReadableText() {
        FeeDocket docket = payable();
        Dockets.write(docket, "3-1-1;1-1-1s;");
        return docket;
    }

    private static String shares(FeeDocket docket) {
        StringBuilder shares = new StringBuilder();
        for (int right = 0; right < docket.value(1); right++) {
            shares.append(docket.share(right)).append(' ');
        }
        return shares.toString();
    }

    /** Uses the docket up. */
    private static int savedStates(FeeDocket docket) {
        int saved = 0;
        while (Check.outcome(docket::undo).isEmpty()) {
            saved++;
        }
        return saved;
    }
}
