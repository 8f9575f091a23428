/** Promises 27 and 28: undo and the digest. */
public final class StateTest {
    public static void main(String[] args) {
        fourStatesAreSaved();
        everyUndoableCallSaves();
        otherCallsDoNotSave();
        undoKeepsTheText();
        undoRestoresAll();
        undoRestoresAnsweredValues();
        undoRestoresHolidays();
        digestTakesAll();
        Check.done("StateTest");
    }

    // Promise 27
    private static void fourStatesAreSaved() {
        FeeDocket docket = new FeeDocket();
        Check.badState("nothing saved", docket::undo);
        Check.changesNothing("nothing saved", docket, docket::undo);
        for (int i = 0; i < 7; i++) {
            docket.pass(1);
        }
        for (int left = 3; left >= 0; left--) {
            Check.same("undo()", docket.undo(), left);
            Check.same("today", docket.value(0), left + 3);
        }
        Check.badState("nothing is left", docket::undo);
        docket.pass(1);
        Check.same("saved again", docket.undo(), 0);
        Check.same("today", docket.value(0), 3);
    }

    private static void everyUndoableCallSaves() {
        FeeDocket docket = new FeeDocket();
        docket.holiday(1, 1);
        Check.same("holiday", docket.undo(), 0);
        docket.setFees(100, 20, 50, 300);
        Check.same("setFees, even if nothing changes", docket.undo(), 0);
        docket.payAll();
        Check.same("payAll, even if nothing changes", docket.undo(), 0);
        docket.parse();
        Check.same("parse", docket.undo(), 0);
        docket.file(true);
        Check.same("file", docket.undo(), 0);
        docket.file(true);
        docket.pass(300);
        Check.same("pass", docket.undo(), 1);
        docket.pass(300);
        docket.pay(0);
        Check.same("pay", docket.undo(), 2);
        docket.pass(300);
        docket.use(0, 1);
        Check.same("use", docket.undo(), 3);
        docket.revive(0);
        Check.same("revive", docket.undo(), 3);
        Check.same("it is lapsed", docket.right(0, 7), 1);
    }

    private static void otherCallsDoNotSave() {
        FeeDocket docket = Dockets.withRights(false);
        docket.undo();
        docket.append('1');
        docket.clearText();
        docket.append('x');
        docket.parse();
        docket.costs(5);
        docket.lapsing(5);
        docket.nextDue();
        docket.digest();
        Check.outcome(() -> docket.pay(0));
        Check.badState("nothing saved", docket::undo);
    }

    private static void undoKeepsTheText() {
        FeeDocket docket = new FeeDocket();
        docket.append('1');
        docket.pass(1);
        docket.append('2');
        docket.undo();
        Check.same("the text stays", docket.clearText(), 2);
        docket.pass(1);
        docket.undo();
        Check.same("it stays empty", docket.clearText(), 0);
    }

    private static void undoRestoresAll() {
        FeeDocket docket = Dockets.withText("0-1-1;0-1-1s;");
        docket.parse();
        // Three states are saved ahead of each call below, so that none is dropped.
        docket.pass(601);
        docket.use(0, 1);
        long before = docket.digest();
        docket.revive(0);
        docket.undo();
        Check.same("a revival", docket.digest(), before);
        docket.use(1, 9);
        docket.undo();
        Check.same("a user", docket.digest(), before);
        docket.setFees(1, 2, 3, 4);
        docket.undo();
        Check.same("fees", docket.digest(), before);
    }

    // All nineteen years are paid, some by revivals; then other rights take the rows.
    private static void undoRestoresAnsweredValues() {
        FeeDocket docket = withRevivals();
        docket.parse();
        docket.file(true);
        docket.undo();
        docket.undo();
        Check.same("all answers", allOf(docket), allOf(withRevivals()));
    }

    private static FeeDocket withRevivals() {
        FeeDocket docket = Dockets.withText("49-1-1s;");
        docket.pass(10);
        docket.file(false);
        for (int year = 1; year <= 19; year++) {
            Dockets.passTo(docket, docket.due(0, year, true) + year % 2);
            if (year % 2 == 1) {
                docket.use(0, year / 2);
                docket.pass(1);
                docket.revive(0);
            } else {
                docket.pay(0);
            }
        }
        return docket;
    }

    private static String allOf(FeeDocket docket) {
        StringBuilder all = new StringBuilder();
        for (int what = 0; what <= 11; what++) {
            all.append(docket.value(what)).append(' ');
        }
        for (int right = 0; right < docket.value(1); right++) {
            for (int what = 0; what <= 12; what++) {
                all.append(docket.right(right, what)).append(' ');
            }
            for (int user = 0; user <= 9; user++) {
                all.append(docket.user(right, user)).append(' ');
            }
            for (int year = 1; year <= 19; year++) {
                int due = docket.due(right, year, false);
                int grace = docket.due(right, year, true);
                all.append(due).append(' ').append(grace).append(' ');
                for (int day : new int[] {due, due + 1, grace + 1, grace + 2}) {
                    all.append(docket.stood(right, day) ? 's' : '-').append(docket.covered(right, day) ? 'c' : '-');
                }
            }
            all.append(docket.share(right)).append(' ');
        }
        return all.toString();
    }

    private static void undoRestoresHolidays() {
        FeeDocket docket = new FeeDocket();
        docket.holiday(1, 1);
        docket.holiday(1, 2);
        docket.holiday(1, 1);
        Check.same("one is gone", docket.putOff(0), 0);
        docket.undo();
        Check.same("both again", docket.putOff(0), 2);
        docket.undo();
        Check.same("the first alone", docket.putOff(0), 1);
        Check.same("the second works", docket.putOff(1), 1);
    }

    // Promise 28
    private static void digestTakesAll() {
        FeeDocket docket = new FeeDocket();
        Check.same("a new object", docket.digest(), hash(docket, 0, 0));
        docket.append('0');
        Check.same("with a text", docket.digest(), hash(docket, 1, 0));
        docket.file(false);
        docket.file(true);
        Check.same("with rights", docket.digest(), hash(docket, 1, 2));
        Dockets.passTo(docket, 366);
        docket.payAll();
        docket.pass(600);
        docket.use(1, 3);
        docket.pass(2);
        docket.revive(1);
        Check.same("with users", docket.digest(), hash(docket, 1, 4));
    }

    private static long hash(FeeDocket docket, int textLength, int saved) {
        long hash = 3469;
        hash = 31 * hash + textLength;
        for (int what = 0; what <= 11; what++) {
            hash = 31 * hash + docket.value(what);
        }
        int today = docket.value(0);
        hash = 31 * hash + docket.date(today);
        for (int right = 0; right < docket.value(1); right++) {
            for (int what = 0; what <= 12; what++) {
                hash = 31 * hash + docket.right(right, what);
            }
            for (int user = 0; user <= 9; user++) {
                hash = 31 * hash + docket.user(right, user);
            }
            hash = 31 * hash + (docket.stood(right, today) ? 1 : 0);
        }
        hash = 31 * hash + docket.nextDue();
        return 31 * hash + saved;
    }
}
