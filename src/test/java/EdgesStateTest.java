import java.math.BigInteger;
import java.util.ArrayList;
import java.util.List;

/** Promises 27 and 28: undo and the digest, of nothing and of all. */
public final class EdgesStateTest {
    private static final BigInteger LONGS = BigInteger.ONE.shiftLeft(64);

    public static void main(String[] args) {
        undoWithoutASavedState();
        undoTellsWhatRemains();
        undoTakesTheMostRecentState();
        undoneStatesAreRemoved();
        undoGoesBackThroughEveryKindOfCall();
        undoOfTenRights();
        undoRestoresGapsAndUsers();
        undoRestoresTheLastYears();
        all512CallsAreAnswered();
        digestOfANewObject();
        digestOfTheBusyObject();
        digestOfTheFullObject();
        digestWrapsAround();
        digestAnswersAnyLong();
        digestTellsTheText();
        digestTellsTheSavedStates();
        digestTellsToday();
        digestTellsEachRight();
        digestTellsTheUsers();
        digestTellsWhatStandsToday();
        digestTellsNextDue();
        digestChangesNothing();
        Check.done("EdgesStateTest");
    }

    // Promise 27: "Throws IllegalStateException if there is no saved state"
    private static void undoWithoutASavedState() {
        Check.refused("undo() of a new object", Check.STATE, FeeDocket::new, FeeDocket::undo);
        Check.refused("undo() behind the last one", Check.STATE, () -> {
            FeeDocket docket = Dockets.busy();
            for (int left = 3; left >= 0; left--) {
                Check.same("undo()", docket.undo(), left);
            }
            return docket;
        }, FeeDocket::undo);
        Check.refused("undo() of a text alone", Check.STATE, () -> Dockets.withText("1-1-1;"), FeeDocket::undo);
        Check.refused("undo() behind an error", Check.STATE, () -> {
            FeeDocket docket = Dockets.withText("1-1-1");
            docket.parse();
            return docket;
        }, FeeDocket::undo);
    }

    // "Returns the number of saved states that remain."
    private static void undoTellsWhatRemains() {
        for (int calls = 1; calls <= 6; calls++) {
            FeeDocket docket = new FeeDocket();
            for (int i = 0; i < calls; i++) {
                docket.setFees(i, 0, 0, 0);
            }
            for (int left = Math.min(4, calls) - 1; left >= 0; left--) {
                Check.same("undo() of " + calls, docket.undo(), left);
            }
            Check.badState("undo() of " + calls, docket::undo);
            Check.same("the base", docket.value(8), calls <= 4 ? 100 : calls - 5);
        }
    }

    // "Restores the most recently saved state"
    private static void undoTakesTheMostRecentState() {
        FeeDocket docket = new FeeDocket();
        docket.setFees(1, 0, 0, 0);
        docket.setFees(2, 0, 0, 0);
        docket.setFees(3, 0, 0, 0);
        docket.undo();
        Check.same("the second", docket.value(8), 2);
        docket.setFees(4, 0, 0, 0);
        docket.undo();
        Check.same("the second again", docket.value(8), 2);
        docket.undo();
        Check.same("the first", docket.value(8), 1);
        docket.undo();
        Check.same("initially", docket.value(8), 100);
    }

    // "and removes it from the saved states"
    private static void undoneStatesAreRemoved() {
        FeeDocket docket = new FeeDocket();
        docket.pass(1);
        docket.pass(1);
        docket.undo();
        docket.undo();
        Check.badState("both are removed", docket::undo);
        Check.same("undo() itself is not undone", docket.value(0), 0);
    }

    private static void undoGoesBackThroughEveryKindOfCall() {
        FeeDocket docket = new FeeDocket();
        long empty = docket.digest();
        docket.holiday(2, 29);
        docket.setFees(9999, 999, 100, 9999);
        docket.file(true);
        docket.pass(4000);
        for (int left = 3; left >= 0; left--) {
            Check.same("undo()", docket.undo(), left);
        }
        Check.same("holiday, setFees, file and pass undone", docket.digest(), empty);
        docket.file(false);
        docket.pass(548);
        docket.use(0, 0);
        docket.revive(0);
        docket.undo();
        docket.undo();
        Check.same("revive and use undone", docket.right(0, 10) == 0 && docket.right(0, 7) == 1, true);
        docket.undo();
        docket.undo();
        Check.same("pass and file undone", docket.digest(), empty);
    }

    private static void undoOfTenRights() {
        FeeDocket docket = Dockets.withTenRights();
        docket.pass(548);
        for (int right = 0; right < 10; right++) {
            docket.revive(right);
        }
        Check.same("ten stand", docket.value(2), 10);
        for (int left = 3; left >= 0; left--) {
            Check.same("undo()", docket.undo(), left);
            Check.same("the rights that stand", docket.value(2), 6 + left);
            Check.same("the lapsed ones", docket.value(3), 4 - left);
            Check.same("value(5)", docket.value(5), 480 * (6 + left));
            Check.same("value(6)", docket.value(6), 60 * (6 + left));
            Check.same("value(7)", docket.value(7), 300 * (6 + left));
            Check.same("the right that was revived", docket.right(6 + left, 7), 1);
            Check.same("the one ahead of it", docket.right(5 + left, 7), 0);
        }
    }

    private static void undoRestoresGapsAndUsers() {
        FeeDocket docket = Dockets.busy();
        docket.parse();
        Check.same("one right", docket.value(1), 1);
        docket.undo();
        Check.same("four rights", docket.value(1), 4);
        Check.same("protected", docket.user(0, 3), 2);
        Check.same("begun", docket.user(0, 4), 1);
        Check.same("begun", docket.user(1, 9), 1);
        Check.same("in the gap", docket.stood(0, 600), false);
        Check.same("covered in the gap", docket.covered(0, 600), false);
        Check.same("behind the gap", docket.stood(0, 601), true);
        Check.same("ahead of the gap", docket.covered(0, 367), true);
    }

    // "An object is used for at most 512 calls after it has been made"
    private static void all512CallsAreAnswered() {
        FeeDocket passed = new FeeDocket();
        for (int i = 0; i < 511; i++) {
            passed.pass(1);
        }
        Check.same("call 512", passed.value(0), 511);
        FeeDocket undone = new FeeDocket();
        for (int i = 0; i < 255; i++) {
            undone.setFees(i, 0, 0, 0);
            undone.undo();
        }
        Check.same("call 511", undone.payAll(), 0);
        Check.same("call 512", undone.undo(), 0);
        FeeDocket refused = new FeeDocket();
        for (int i = 0; i < 511; i++) {
            Check.badIndex("a refused call", () -> refused.pay(0));
        }
        Check.same("call 512", refused.file(false), 0);
    }

    // The last years of a right, behind a parse that takes its row.
    private static void undoRestoresTheLastYears() {
        FeeDocket docket = Dockets.paidUpTo(17);
        Dockets.passTo(docket, docket.due(0, 18, true) + 1);
        docket.revive(0);
        Dockets.passTo(docket, docket.due(0, 19, true) + 1);
        docket.revive(0);
        int today = docket.value(0);
        double share = docket.share(0);
        Dockets.write(docket, "49-12-31;");
        docket.parse();
        docket.file(true);
        docket.undo();
        docket.undo();
        Check.same("today", docket.value(0), today);
        Check.same("no fee is left", docket.right(0, 3), FeeDocket.NONE);
        Check.same("share", docket.share(0), share);
        for (int year = 1; year <= 19; year++) {
            int due = docket.due(0, year, false);
            int grace = docket.due(0, year, true);
            Check.same("due(" + year + ")", due, docket.putOff(docket.day(year, 1, 1)));
            Check.same("grace(" + year + ")", grace, docket.putOff(docket.day(year, 7, 1)));
            Check.same("behind due(" + year + ")", docket.stood(0, due + 1), year < 18);
            Check.same("on grace(" + year + ")", docket.covered(0, grace), year < 18);
            Check.same("behind grace(" + year + ")", docket.covered(0, grace + 1), true);
        }
    }

    // Promise 28: each value in its order, reckoned without the bounds of long
    private static void digestOfANewObject() {
        FeeDocket docket = new FeeDocket();
        Check.same("a new object", docket.digest(), hash(docket, 0, 0));
    }

    private static void digestOfTheBusyObject() {
        FeeDocket docket = Dockets.busy();
        Check.same("the busy docket", docket.digest(), hash(docket, 7, 4));
        docket.undo();
        Check.same("a state less", docket.digest(), hash(docket, 7, 3));
        docket.clearText();
        Check.same("no text", docket.digest(), hash(docket, 0, 3));
        docket.parse();
        Check.same("no rights", docket.digest(), hash(docket, 0, 4));
    }

    private static void digestOfTheFullObject() {
        FeeDocket docket = fullObject();
        Check.same("six holidays, ten rights, 100 bytes, four states", docket.digest(), hash(docket, 100, 4));
        FeeDocket last = fullObject();
        last.pass(4000);
        last.pass(1496);
        Check.same("the end of year 75", last.value(0), Dockets.END_OF_YEAR_75);
        last.undo();
        last.undo();
        Check.same("two states less", last.digest(), hash(last, 100, 2));
    }

    private static FeeDocket fullObject() {
        FeeDocket docket = Dockets.withSixHolidays();
        docket.setFees(9999, 999, 100, 9999);
        Dockets.write(docket, "49-12-31s;".repeat(10));
        docket.parse();
        docket.pass(4000);
        docket.use(9, 9);
        return docket;
    }

    // "with the overflow of long arithmetic ignored"
    private static void digestWrapsAround() {
        FeeDocket docket = new FeeDocket();
        BigInteger whole = exactHash(docket, 0, 0);
        Check.same("it is beyond long already", whole.bitLength() > 64, true);
        Check.same("its lowest 64 bits", docket.digest(), whole.mod(LONGS).longValue());
        FeeDocket ten = Dockets.withTenRights();
        BigInteger wholeOfTen = exactHash(ten, 0, 4);
        Check.same("far beyond long", wholeOfTen.bitLength() > 1000, true);
        Check.same("its lowest 64 bits", ten.digest(), wholeOfTen.mod(LONGS).longValue());
    }

    private static void digestAnswersAnyLong() {
        int below = 0;
        int beyond32 = 0;
        FeeDocket docket = Dockets.withRights(true);
        for (int i = 0; i < 8; i++) {
            long digest = docket.digest();
            Check.same("digest " + i, digest, hash(docket, i, 1));
            below += digest < 0 ? 1 : 0;
            beyond32 += digest != (int) digest ? 1 : 0;
            docket.append('x');
        }
        Check.same("some are below 0", below > 0 && below < 8, true);
        Check.same("none fits an int", beyond32, 8);
    }

    // "the length of the text"
    private static void digestTellsTheText() {
        for (int length : new int[] {0, 1, 2, 50, 99, 100}) {
            FeeDocket docket = Dockets.withText("1".repeat(length));
            Check.same("with " + length + " bytes", docket.digest(), hash(docket, length, 0));
        }
        Check.same("other bytes, the same length", Dockets.withText("ab").digest(), Dockets.withText("01").digest());
    }

    // "the number of saved states"
    private static void digestTellsTheSavedStates() {
        FeeDocket docket = new FeeDocket();
        long empty = docket.digest();
        for (int saved = 1; saved <= 6; saved++) {
            docket.setFees(100, 20, 50, 300);
            Check.same("with " + saved + " calls", docket.digest(), empty + Math.min(4, saved));
        }
        for (int left = 3; left >= 0; left--) {
            docket.undo();
            Check.same("with " + left + " states", docket.digest(), empty + left);
        }
    }

    // "date() of today"
    private static void digestTellsToday() {
        for (int day : new int[] {0, 1, 59, 365, 366, 18262, Dockets.END_OF_YEAR_75}) {
            FeeDocket docket = Dockets.on(day);
            int saved = day == 0 ? 0 : Math.min(4, (day + 3999) / 4000);
            Check.same("on day " + day, docket.digest(), hash(docket, 0, saved));
        }
    }

    // "for each right the values of right() for what = 0 to 12"
    private static void digestTellsEachRight() {
        for (int count = 0; count <= 10; count++) {
            FeeDocket docket = Dockets.withRights(new boolean[count]);
            Check.same("of " + count + " rights", docket.digest(), hash(docket, 0, Math.min(4, count)));
        }
        FeeDocket paid = Dockets.paidUpTo(19);
        Check.same("NONE for its year", paid.right(0, 3), FeeDocket.NONE);
        Check.same("all is paid", paid.digest(), hash(paid, 0, 4));
        FeeDocket whole = Dockets.withRights(false);
        Check.same("small or not", whole.digest() == Dockets.withRights(true).digest(), false);
    }

    // "user() for 0 to 9"
    private static void digestTellsTheUsers() {
        for (int user = 0; user <= 9; user++) {
            FeeDocket docket = Dockets.withRights(false);
            docket.pass(600);
            docket.use(0, user);
            Check.same("begun " + user, docket.digest(), hash(docket, 0, 3));
            docket.pass(1);
            docket.revive(0);
            Check.same("protected " + user, docket.digest(), hash(docket, 0, 4));
        }
    }

    // "and 1 if it stood today, otherwise 0"
    private static void digestTellsWhatStandsToday() {
        for (int day : new int[] {0, 366, 367, 547, 548, 7304, 7305}) {
            FeeDocket docket = Dockets.withRights(false);
            if (day > 0) {
                Dockets.passTo(docket, day);
            }
            int saved = day == 0 ? 1 : day <= 4000 ? 2 : 3;
            Check.same("on day " + day, docket.digest(), hash(docket, 0, saved));
        }
        FeeDocket paid = Dockets.paidUpTo(19);
        Dockets.passTo(paid, 7304);
        Check.same("on the last day", paid.digest(), hash(paid, 0, 4));
        paid.pass(1);
        Check.same("the day behind it", paid.digest(), hash(paid, 0, 4));
    }

    // "nextDue()"
    private static void digestTellsNextDue() {
        FeeDocket docket = Dockets.withText("0-2-1;0-1-1;");
        docket.parse();
        Check.same("nextDue()", docket.nextDue(), 1);
        Check.same("right 1", docket.digest(), hash(docket, 12, 1));
        docket.pass(4000);
        Check.same("nextDue()", docket.nextDue(), FeeDocket.NONE);
        Check.same("NONE", docket.digest(), hash(docket, 12, 2));
    }

    private static void digestChangesNothing() {
        FeeDocket docket = Dockets.busy();
        long digest = docket.digest();
        for (int i = 0; i < 5; i++) {
            Check.same("the same again", docket.digest(), digest);
        }
        Check.same("the docket behind it", Picture.of(docket), Picture.of(Dockets.busy()));
    }

    private static long hash(FeeDocket docket, int textLength, int saved) {
        return exactHash(docket, textLength, saved).longValue();
    }

    private static BigInteger exactHash(FeeDocket docket, int textLength, int saved) {
        List<Integer> values = new ArrayList<>();
        values.add(textLength);
        for (int what = 0; what <= 11; what++) {
            values.add(docket.value(what));
        }
        int today = docket.value(0);
        values.add(docket.date(today));
        for (int right = 0; right < docket.value(1); right++) {
            for (int what = 0; what <= 12; what++) {
                values.add(docket.right(right, what));
            }
            for (int user = 0; user <= 9; user++) {
                values.add(docket.user(right, user));
            }
            values.add(docket.stood(right, today) ? 1 : 0);
        }
        values.add(docket.nextDue());
        values.add(saved);
        BigInteger hash = BigInteger.valueOf(3469);
        for (int value : values) {
            hash = hash.multiply(BigInteger.valueOf(31)).add(BigInteger.valueOf(value));
        }
        return hash;
    }
}
