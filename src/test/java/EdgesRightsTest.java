import java.util.function.Consumer;

/** Promises 7, 8, 13, 14, 15 and 19: the least and the greatest arguments, and what is beyond them. */
public final class EdgesRightsTest {
    private static final int NONE = FeeDocket.NONE;

    public static void main(String[] args) {
        fileNumbersTheRights();
        fileRefusesAnEleventh();
        fileEndsWithYear49();
        fileIsUndoable();
        passTakes1To4000Days();
        passRefusesOtherDays();
        passEndsWithYear75();
        passCountsLapsesOnItsDays();
        passCountsEachRightOnce();
        passIsUndoable();
        setFeesTakesTheLeastAndTheGreatest();
        setFeesRefusesOthers();
        setFeesTellsThePreviousBase();
        setFeesLeavesWhatIsPaid();
        rightTellsThirteenValues();
        rightTellsTheFirstAndTheLastYear();
        rightTellsNoneWithoutAFee();
        rightTellsTheCostOfToday();
        rightCountsUsers();
        rightRefusesOtherRights();
        rightRefusesOtherValues();
        dueTakesYears1To19();
        dueOfTheLastFiling();
        dueRefusesOtherRights();
        dueRefusesOtherYears();
        dueStaysWhenAllIsPaid();
        valueTellsTwelveValues();
        valueCountsNoneAndTen();
        valueRefusesOthers();
        Check.done("EdgesRightsTest");
    }

    // Promise 7: "Adds a right that is filed today." "Returns the number of the right."
    private static void fileNumbersTheRights() {
        FeeDocket docket = new FeeDocket();
        for (int right = 0; right < 10; right++) {
            boolean small = right % 2 == 0;
            Check.same("file", docket.file(small), right);
            Check.same("filed today", docket.right(right, 0), right);
            Check.same("small", docket.right(right, 1), small ? 1 : 0);
            Check.same("nothing is paid", docket.right(right, 2), 0);
            docket.pass(1);
        }
        Check.same("the first one stays", docket.right(0, 0), 0);
        Check.same("ten rights", docket.value(1), 10);
    }

    // "Throws IllegalStateException if there are 10 rights"
    private static void fileRefusesAnEleventh() {
        Check.refused("an eleventh", Check.STATE, Dockets::withTenRights, docket -> docket.file(false));
        Check.refused("a small eleventh", Check.STATE, Dockets::withTenRights, docket -> docket.file(true));
        Check.refused("ten of the text", Check.STATE, () -> parsed("1-1-1;".repeat(10)), docket -> docket.file(true));
        FeeDocket nine = Dockets.withTenRights();
        nine.undo();
        Check.same("nine and one", nine.file(true), 9);
        FeeDocket ended = Dockets.withTenRights();
        Dockets.passTo(ended, 8000);
        Check.badState("ten at their end", () -> ended.file(false));
    }

    // "Throws IllegalStateException if ... today is behind the end of year 49"
    private static void fileEndsWithYear49() {
        Check.same("on its last day", Dockets.on(18262).file(false), 0);
        Check.same("on the day ahead", Dockets.on(18261).file(false), 0);
        Check.refused("behind it", Check.STATE, () -> Dockets.on(18263), docket -> docket.file(false));
        Check.refused("at the end", Check.STATE, () -> Dockets.on(Dockets.END_OF_YEAR_75), docket -> docket.file(true));
        Check.refused("with ten rights, too", Check.STATE, () -> {
            FeeDocket docket = Dockets.withTenRights();
            Dockets.passTo(docket, 18263);
            return docket;
        }, docket -> docket.file(true));
    }

    private static void fileIsUndoable() {
        FeeDocket docket = Dockets.withTenRights();
        Check.same("undo()", docket.undo(), 3);
        Check.same("nine rights", docket.value(1), 9);
        Check.badIndex("right 9", () -> docket.right(9, 0));
        Check.same("right 8", docket.right(8, 0), 0);
    }

    // Promise 8: "days: 1 to 4000"
    private static void passTakes1To4000Days() {
        FeeDocket docket = new FeeDocket();
        Check.same("pass(1)", docket.pass(1), 0);
        Check.same("today", docket.value(0), 1);
        Check.same("pass(3999)", docket.pass(3999), 0);
        Check.same("today", docket.value(0), 4000);
        Check.same("pass(4000)", docket.pass(4000), 0);
        Check.same("today", docket.value(0), 8000);
    }

    // "Throws IllegalArgumentException if days is out of range"
    private static void passRefusesOtherDays() {
        for (int days : new int[] {0, -1, 4001, Integer.MIN_VALUE, Integer.MAX_VALUE, Integer.MAX_VALUE - 600}) {
            busyRefuses("pass(" + days + ")", Check.ARGUMENT, docket -> docket.pass(days));
            Check.refused("pass(" + days + ") at the end", Check.ARGUMENT, () -> Dockets.on(Dockets.END_OF_YEAR_75),
                docket -> docket.pass(days));
        }
    }

    // "Throws IllegalStateException if today would be behind the end of year 75"
    private static void passEndsWithYear75() {
        FeeDocket docket = Dockets.on(27758 - 4000);
        Check.same("to the end", docket.pass(4000), 0);
        Check.same("the last day of year 75", docket.date(docket.value(0)), 751231);
        Check.refused("a day more", Check.STATE, () -> Dockets.on(27758), late -> late.pass(1));
        Check.refused("4000 days more", Check.STATE, () -> Dockets.on(27758), late -> late.pass(4000));
        Check.refused("two, one is left", Check.STATE, () -> Dockets.on(27757), late -> late.pass(2));
        Check.refused("4000, 3999 are left", Check.STATE, () -> Dockets.on(27758 - 3999), late -> late.pass(4000));
        FeeDocket ahead = Dockets.on(27757);
        ahead.pass(1);
        Check.same("one, one is left", ahead.value(0), 27758);
    }

    // "rights lapse on them, each on the day behind its grace." "Returns the number of rights that lapse on these days."
    private static void passCountsLapsesOnItsDays() {
        FeeDocket docket = Dockets.withRights(false, true);
        Dockets.passTo(docket, 300);
        docket.pay(0);
        Dockets.passTo(docket, 546);
        Check.same("up to the end of the grace", docket.pass(1), 0);
        Check.same("the first of the days", docket.pass(4), 1);
        docket.undo();
        docket.undo();
        Check.same("the last of the days", docket.pass(2), 1);
        Check.same("not on the days behind it", docket.pass(364), 0);
        Check.same("the other one, on the day behind its grace", docket.pass(1), 1);
        Check.same("today", docket.value(0), 913);
        for (int count = 0; count <= 10; count++) {
            FeeDocket many = Dockets.withRights(new boolean[count]);
            Check.same("none of " + count, many.pass(547), 0);
            Check.same("all " + count, many.pass(1), count);
        }
    }

    private static void passCountsEachRightOnce() {
        FeeDocket docket = Dockets.withTenRights();
        Check.same("over ten graces", docket.pass(4000), 10);
        Check.same("over ten more", docket.pass(4000), 0);
        Check.same("behind the end", docket.pass(4000), 0);
        Check.same("value(3)", docket.value(3), 10);
    }

    private static void passIsUndoable() {
        FeeDocket docket = Dockets.withTenRights();
        docket.pass(548);
        Check.same("undo()", docket.undo(), 3);
        Check.same("today", docket.value(0), 0);
        Check.same("none is lapsed", docket.value(3), 0);
        Check.same("they lapse again", docket.pass(548), 10);
    }

    // Promise 13: "base: 0 to 9999", "step: 0 to 999", "percent: 0 to 100", "petition: 0 to 9999"
    private static void setFeesTakesTheLeastAndTheGreatest() {
        int[][] taken = {{0, 0, 0, 0}, {9999, 0, 0, 0}, {0, 999, 0, 0}, {0, 0, 100, 0}, {0, 0, 0, 9999},
            {9999, 999, 100, 9999}, {1, 1, 1, 1}, {9998, 998, 99, 9998}};
        for (int[] fees : taken) {
            FeeDocket docket = new FeeDocket();
            Check.same("setFees", docket.setFees(fees[0], fees[1], fees[2], fees[3]), 100);
            for (int i = 0; i < 4; i++) {
                Check.same("value(" + (8 + i) + ")", docket.value(8 + i), fees[i]);
            }
        }
    }

    // "Throws IllegalArgumentException if an argument is out of range"
    private static void setFeesRefusesOthers() {
        int[] greatest = {9999, 999, 100, 9999};
        for (int place = 0; place < 4; place++) {
            int[] wrong = {-1, greatest[place] + 1, Integer.MIN_VALUE, Integer.MAX_VALUE};
            for (int value : wrong) {
                int[] fees = {1, 1, 1, 1};
                fees[place] = value;
                busyRefuses("argument " + place + " " + value, Check.ARGUMENT,
                    docket -> docket.setFees(fees[0], fees[1], fees[2], fees[3]));
            }
        }
    }

    // "Returns the previous base."
    private static void setFeesTellsThePreviousBase() {
        FeeDocket docket = new FeeDocket();
        Check.same("initially", docket.setFees(9999, 1, 2, 3), 100);
        Check.same("the greatest", docket.setFees(0, 4, 5, 6), 9999);
        Check.same("the least", docket.setFees(7, 8, 9, 10), 0);
        Check.same("the same again", docket.setFees(7, 8, 9, 10), 7);
        docket.undo();
        docket.undo();
        Check.same("undone", docket.setFees(1, 1, 1, 1), 0);
    }

    private static void setFeesLeavesWhatIsPaid() {
        FeeDocket docket = Dockets.paidUpTo(1);
        docket.setFees(0, 0, 0, 0);
        Check.same("right(0, 12)", docket.right(0, 12), 120);
        Check.same("value(5)", docket.value(5), 120);
        Check.same("the next fee", docket.right(0, 6), 0);
    }

    // Promise 14: the values 0 to 12 of the busy docket's rights
    private static void rightTellsThirteenValues() {
        FeeDocket docket = Dockets.busy();
        int petitioned = 122 + 40 + 250;
        values(docket, 0, 0, 0, 1, 2, 732, 912, 143, 0, 7304, 1, 2, 1, petitioned);
        values(docket, 1, 10, 1, 0, 1, 378, 557, 61 + 20, 1, 7314, 0, 2, 0, 0);
        values(docket, 2, 200, 0, 0, 1, 567, 749, 122 + 40, 0, docket.day(20, 7, 18), 0, 0, 0, 0);
        values(docket, 3, 300, 1, 1, 2, docket.due(3, 2, false), docket.due(3, 2, true), 72, 0,
            docket.day(20, 10, 26), 0, 0, 0, 61);
    }

    private static void values(FeeDocket docket, int right, int... due) {
        for (int what = 0; what < due.length; what++) {
            Check.same("right(" + right + ", " + what + ")", docket.right(right, what), due[what]);
        }
    }

    // "2 the fees that are paid, 3 the next unpaid year (NONE if no fee is left), 4 due() and 5 grace() of that year"
    private static void rightTellsTheFirstAndTheLastYear() {
        FeeDocket first = Dockets.paidUpTo(0);
        Check.same("no fee is paid", first.right(0, 2), 0);
        Check.same("the first year", first.right(0, 3), 1);
        Check.same("its due day", first.right(0, 4), first.due(0, 1, false));
        Check.same("its grace", first.right(0, 5), first.due(0, 1, true));
        FeeDocket last = Dockets.paidUpTo(18);
        Check.same("all but one", last.right(0, 2), 18);
        Check.same("the last year", last.right(0, 3), 19);
        Check.same("its due day", last.right(0, 4), last.due(0, 19, false));
        Check.same("its grace", last.right(0, 5), last.due(0, 19, true));
        Check.same("its fee", last.right(0, 6), 480);
    }

    // "(NONE if no fee is left)", "(NONE without one)", "(... 0 without one)"
    private static void rightTellsNoneWithoutAFee() {
        FeeDocket docket = Dockets.paidUpTo(19);
        int sum = 19 * 100 + 20 * 190;
        values(docket, 0, 0, 0, 19, NONE, NONE, NONE, 0, 0, 7304, 0, 0, 0, sum);
        docket.setFees(9999, 999, 100, 9999);
        Check.same("no fee to pay", docket.right(0, 6), 0);
        Dockets.passTo(docket, 8000);
        values(docket, 0, 0, 0, 19, NONE, NONE, NONE, 0, 0, 7304, 0, 0, 0, sum);
    }

    // "6 what it would cost to pay that fee today (with the surcharge behind due(), no petition; ...)"
    private static void rightTellsTheCostOfToday() {
        FeeDocket docket = Dockets.withRights(false);
        int[] days = {0, 275, 276, 366, 367, 547, 548, 912, 913, 7304, 7305};
        for (int day : days) {
            Dockets.passTo(docket, day);
            Check.same("on day " + day, docket.right(0, 6), day <= 366 ? 120 : 180);
        }
        // 3 the year, 7 whether it is lapsed: at its end nothing of this changes.
        Check.same("the year", docket.right(0, 3), 1);
        Check.same("lapsed", docket.right(0, 7), 1);
    }

    // "9 the gaps so far (each by a revival), 10 the users, 11 the protected users"
    private static void rightCountsUsers() {
        FeeDocket docket = Dockets.withRights(false);
        Dockets.passTo(docket, 548);
        for (int user = 0; user < 9; user++) {
            docket.use(0, user);
        }
        docket.pass(1);
        docket.use(0, 9);
        Check.same("ten users", docket.right(0, 10), 10);
        Check.same("none is protected", docket.right(0, 11), 0);
        Check.same("no gap", docket.right(0, 9), 0);
        docket.revive(0);
        Check.same("ten users", docket.right(0, 10), 10);
        Check.same("nine are protected", docket.right(0, 11), 9);
        Check.same("a gap", docket.right(0, 9), 1);
        FeeDocket gaps = Dockets.withRights(false);
        for (int year = 1; year <= 19; year++) {
            Dockets.passTo(gaps, gaps.due(0, year, true) + 1);
            Check.same("gaps", gaps.right(0, 9), year - 1);
            gaps.revive(0);
        }
        Check.same("a gap for each year", gaps.right(0, 9), 19);
    }

    // "Throws IndexOutOfBoundsException if there is no such right"
    private static void rightRefusesOtherRights() {
        for (int right : new int[] {-1, 4, 9, 10, Integer.MIN_VALUE, Integer.MAX_VALUE}) {
            busyRefuses("right(" + right + ", 0)", Check.INDEX, docket -> docket.right(right, 0));
            busyRefuses("right(" + right + ", 13)", Check.INDEX, docket -> docket.right(right, 13));
        }
        Check.refused("none", Check.INDEX, FeeDocket::new, docket -> docket.right(0, 0));
        Check.same("the last of ten", Dockets.withTenRights().right(9, 3), 1);
        Check.refused("behind ten", Check.INDEX, Dockets::withTenRights, docket -> docket.right(10, 0));
    }

    // "Throws IllegalArgumentException if what is out of range"
    private static void rightRefusesOtherValues() {
        for (int what : new int[] {-1, 13, Integer.MIN_VALUE, Integer.MAX_VALUE}) {
            busyRefuses("right(0, " + what + ")", Check.ARGUMENT, docket -> docket.right(0, what));
        }
    }

    // Promise 15: "year: 1 to 19", "grace: true for grace(year), false for due(year)"
    private static void dueTakesYears1To19() {
        FeeDocket docket = Dockets.withTenRights();
        for (int right = 0; right < 10; right += 9) {
            Check.same("due(1)", docket.due(right, 1, false), 366);
            Check.same("grace(1)", docket.due(right, 1, true), 547);
            Check.same("due(2)", docket.due(right, 2, false), 731);
            Check.same("due(18)", docket.due(right, 18, false), docket.putOff(docket.day(18, 1, 1)));
            Check.same("due(19)", docket.due(right, 19, false), docket.putOff(docket.day(19, 1, 1)));
            Check.same("grace(19)", docket.due(right, 19, true), docket.putOff(docket.day(19, 7, 1)));
        }
    }

    private static void dueOfTheLastFiling() {
        FeeDocket docket = Dockets.withRightOn(18262, false);
        for (int year = 1; year <= 19; year++) {
            Check.same("due(" + year + ")", docket.due(0, year, false), docket.putOff(docket.day(49 + year, 12, 31)));
            Check.same("grace(" + year + ")", docket.due(0, year, true), docket.putOff(docket.day(50 + year, 6, 30)));
        }
    }

    // "Throws IndexOutOfBoundsException if there is no such right"
    private static void dueRefusesOtherRights() {
        for (int right : new int[] {-1, 4, 10, Integer.MIN_VALUE, Integer.MAX_VALUE}) {
            busyRefuses("due(" + right + ", 1, true)", Check.INDEX, docket -> docket.due(right, 1, true));
            busyRefuses("due(" + right + ", 20, false)", Check.INDEX, docket -> docket.due(right, 20, false));
        }
        Check.refused("none", Check.INDEX, FeeDocket::new, docket -> docket.due(0, 1, false));
        Check.refused("behind ten", Check.INDEX, Dockets::withTenRights, docket -> docket.due(10, 1, false));
    }

    // "Throws IllegalArgumentException if year is out of range"
    private static void dueRefusesOtherYears() {
        for (int year : new int[] {0, -1, 20, Integer.MIN_VALUE, Integer.MAX_VALUE}) {
            busyRefuses("due(0, " + year + ", false)", Check.ARGUMENT, docket -> docket.due(0, year, false));
            busyRefuses("due(3, " + year + ", true)", Check.ARGUMENT, docket -> docket.due(3, year, true));
        }
    }

    private static void dueStaysWhenAllIsPaid() {
        FeeDocket docket = Dockets.paidUpTo(19);
        Dockets.passTo(docket, docket.right(0, 8) + 1);
        Check.same("due(1)", docket.due(0, 1, false), 366);
        Check.same("grace(19)", docket.due(0, 19, true), docket.putOff(docket.day(19, 7, 1)));
    }

    // Promise 19: the values 0 to 11
    private static void valueTellsTwelveValues() {
        FeeDocket docket = Dockets.busy();
        int[] due = {601, 4, 3, 1, 2, 122 + 40 + 250 + 61, 40, 250, 101, 21, 33, 250};
        for (int what = 0; what < due.length; what++) {
            Check.same("value(" + what + ")", docket.value(what), due[what]);
        }
    }

    // "2 those that stand today, 3 those that are lapsed"
    private static void valueCountsNoneAndTen() {
        FeeDocket docket = Dockets.withTenRights();
        Check.same("ten stand", docket.value(2), 10);
        Check.same("none is lapsed", docket.value(3), 0);
        Dockets.passTo(docket, 547);
        Check.same("ten stand in their grace", docket.value(2), 10);
        docket.pass(1);
        Check.same("none stands", docket.value(2), 0);
        Check.same("ten are lapsed", docket.value(3), 10);
        docket.revive(9);
        Check.same("one stands", docket.value(2), 1);
        Check.same("nine are lapsed", docket.value(3), 9);
        FeeDocket full = Dockets.withSixHolidays();
        Check.same("six holidays", full.value(4), 6);
        FeeDocket paid = Dockets.paidUpTo(19);
        Dockets.passTo(paid, paid.right(0, 8));
        Check.same("it stands on its last day", paid.value(2), 1);
        paid.pass(1);
        Check.same("at its end it does not stand", paid.value(2), 0);
        Check.same("nor is it lapsed", paid.value(3), 0);
        Check.same("but it is a right", paid.value(1), 1);
    }

    // "Throws IllegalArgumentException if what is out of range"
    private static void valueRefusesOthers() {
        for (int what : new int[] {-1, 12, Integer.MIN_VALUE, Integer.MAX_VALUE}) {
            busyRefuses("value(" + what + ")", Check.ARGUMENT, docket -> docket.value(what));
        }
    }

    private static FeeDocket parsed(String text) {
        FeeDocket docket = Dockets.withText(text);
        docket.parse();
        return docket;
    }

    private static void busyRefuses(String call, String exception, Consumer<FeeDocket> body) {
        Check.refused(call, exception, Dockets::busy, body);
    }
}
