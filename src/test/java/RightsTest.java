/** Promises 1, 7, 8, 13, 14, 15 and 19: a new object, filing, passing days, fees and what is told of them. */
public final class RightsTest {
    public static void main(String[] args) {
        newObjectIsEmpty();
        filingAddsRights();
        filingIsRefused();
        daysPass();
        passingIsRefused();
        lapsesAreCounted();
        feesAreSet();
        feesAreRefused();
        rightTellsItsValues();
        rightRefuses();
        dueDaysArePutOff();
        dueRefuses();
        valueTellsTheDocket();
        Check.done("RightsTest");
    }

    // Promise 1
    private static void newObjectIsEmpty() {
        FeeDocket docket = new FeeDocket();
        int[] due = {0, 0, 0, 0, 0, 0, 0, 0, 100, 20, 50, 300};
        for (int what = 0; what < due.length; what++) {
            Check.same("value(" + what + ")", docket.value(what), due[what]);
        }
        Check.same("nextDue()", docket.nextDue(), FeeDocket.NONE);
        Check.same("clearText()", docket.clearText(), 0);
        Check.badState("undo()", docket::undo);
    }

    // Promise 7
    private static void filingAddsRights() {
        FeeDocket docket = new FeeDocket();
        for (int i = 0; i < 10; i++) {
            Check.same("file", docket.file(i % 2 == 1), i);
            Check.same("value(1)", docket.value(1), i + 1);
            Check.same("filed", docket.right(i, 0), docket.value(0));
            Check.same("small", docket.right(i, 1), i % 2);
            docket.pass(3);
        }
        Check.badState("an eleventh", () -> docket.file(false));
        Check.changesNothing("an eleventh", docket, () -> docket.file(false));
    }

    private static void filingIsRefused() {
        FeeDocket docket = new FeeDocket();
        Dockets.passTo(docket, 18262);
        Check.same("on the last day of year 49", docket.file(false), 0);
        docket.pass(1);
        Check.badState("the day behind it", () -> docket.file(false));
        docket.undo();
        Check.same("the day before it again", docket.file(true), 1);
        docket.undo();
        Check.same("undo", docket.value(1), 1);
    }

    // Promise 8
    private static void daysPass() {
        FeeDocket docket = new FeeDocket();
        Check.same("pass(1)", docket.pass(1), 0);
        Check.same("today", docket.value(0), 1);
        Check.same("pass(4000)", docket.pass(4000), 0);
        Check.same("today", docket.value(0), 4001);
        Dockets.passTo(docket, 27757);
        Check.badState("behind year 75", () -> docket.pass(2));
        Check.same("the last day of year 75", docket.pass(1), 0);
        Check.same("its date", docket.date(docket.value(0)), 751231);
        Check.badState("behind year 75", () -> docket.pass(1));
        Check.changesNothing("behind year 75", docket, () -> docket.pass(4000));
    }

    private static void passingIsRefused() {
        FeeDocket docket = new FeeDocket();
        int[] wrong = {0, -1, 4001, Integer.MIN_VALUE, Integer.MAX_VALUE};
        for (int days : wrong) {
            Check.badArgument("pass(" + days + ")", () -> docket.pass(days));
            Check.changesNothing("pass(" + days + ")", docket, () -> docket.pass(days));
        }
        Dockets.passTo(docket, 27758);
        Check.badArgument("the argument counts first", () -> docket.pass(4001));
    }

    private static void lapsesAreCounted() {
        FeeDocket docket = Dockets.withRights(false, true, false);
        int grace = docket.due(0, 1, true);
        Dockets.passTo(docket, docket.due(0, 1, false) - 90);
        docket.pay(1);
        Dockets.passTo(docket, grace - 1);
        Check.same("up to the end of the grace", docket.pass(1), 0);
        Check.same("not lapsed", docket.right(0, 7), 0);
        Check.same("behind it", docket.pass(1), 2);
        Check.same("lapsed", docket.right(0, 7), 1);
        Check.same("paid", docket.right(1, 7), 0);
        Check.same("lapsed", docket.right(2, 7), 1);
        Check.same("each once", docket.pass(300), 0);
        Check.same("the other one", docket.pass(400), 1);
        Check.same("value(3)", docket.value(3), 3);
        docket.undo();
        Check.same("undo", docket.right(1, 7), 0);
    }

    // Promise 13
    private static void feesAreSet() {
        FeeDocket docket = Dockets.withRights(false, true);
        Check.same("the previous base", docket.setFees(9999, 999, 100, 9999), 100);
        Check.same("the previous base", docket.setFees(0, 0, 0, 0), 9999);
        Check.same("no fee", docket.right(0, 6), 0);
        Check.same("undo", docket.undo(), 3);
        int[] due = {9999, 999, 100, 9999};
        for (int what = 8; what < 12; what++) {
            Check.same("value(" + what + ")", docket.value(what), due[what - 8]);
        }
        Check.same("whole fee", docket.right(0, 6), 10998);
        docket.setFees(101, 20, 33, 0);
        Check.same("half, rounded up", docket.right(1, 6), 61);
        Dockets.passTo(docket, 367);
        Check.same("surcharge, rounded down", docket.right(0, 6), 121 + 39);
        Check.same("surcharge of the half", docket.right(1, 6), 61 + 20);
    }

    private static void feesAreRefused() {
        FeeDocket docket = new FeeDocket();
        int[][] wrong = {{-1, 0, 0, 0}, {10000, 0, 0, 0}, {0, -1, 0, 0}, {0, 1000, 0, 0}, {0, 0, -1, 0},
            {0, 0, 101, 0}, {0, 0, 0, -1}, {0, 0, 0, 10000}, {Integer.MIN_VALUE, 0, 0, 0}};
        for (int[] fees : wrong) {
            Check.badArgument("setFees", () -> docket.setFees(fees[0], fees[1], fees[2], fees[3]));
            Check.changesNothing("setFees", docket, () -> docket.setFees(fees[0], fees[1], fees[2], fees[3]));
        }
    }

    // Promise 14
    private static void rightTellsItsValues() {
        FeeDocket docket = Dockets.withRightOn(59, true);
        values(docket, 59, 1, 0, 1, 424, 606, 60, 0, docket.day(20, 2, 28), 0, 0, 0, 0);
        Dockets.passTo(docket, 425);
        values(docket, 59, 1, 0, 1, 424, 606, 90, 0, docket.day(20, 2, 28), 0, 0, 0, 0);
        docket.pay(0);
        values(docket, 59, 1, 1, 2, 791, 973, 70, 0, docket.day(20, 2, 28), 0, 0, 0, 90);
        Dockets.passTo(docket, 1000);
        docket.use(0, 4);
        docket.use(0, 9);
        values(docket, 59, 1, 1, 2, 791, 973, 105, 1, docket.day(20, 2, 28), 0, 2, 0, 90);
        docket.pass(1);
        docket.use(0, 5);
        docket.revive(0);
        values(docket, 59, 1, 2, 3, docket.due(0, 3, false), docket.due(0, 3, true), 80, 0,
            docket.day(20, 2, 28), 1, 3, 2, 90 + 105 + 300);
        for (int year = 3; year <= 19; year++) {
            Dockets.passTo(docket, docket.due(0, year, false));
            docket.pay(0);
        }
        int sum = 90 + 105 + 300;
        for (int year = 3; year <= 19; year++) {
            sum += 50 + 10 * year;
        }
        int none = FeeDocket.NONE;
        values(docket, 59, 1, 19, none, none, none, 0, 0, docket.day(20, 2, 28), 1, 3, 2, sum);
        docket.pass(4000);
        Check.same("never lapsed without a fee", docket.right(0, 7), 0);
        Check.same("but at its end", docket.value(2), 0);
    }

    private static void values(FeeDocket docket, int... due) {
        for (int what = 0; what < due.length; what++) {
            Check.same("right(0, " + what + ") on " + docket.value(0), docket.right(0, what), due[what]);
        }
    }

    private static void rightRefuses() {
        FeeDocket docket = Dockets.withRights(false);
        int[] wrong = {-1, 13, Integer.MIN_VALUE, Integer.MAX_VALUE};
        for (int number : wrong) {
            Check.badArgument("right(0, " + number + ")", () -> docket.right(0, number));
            Check.badIndex("right(" + number + ", 0)", () -> docket.right(number, 0));
            Check.badIndex("the right counts first", () -> docket.right(number, number));
        }
        Check.badIndex("right(1, 0)", () -> docket.right(1, 0));
        Check.badIndex("right(10, 0)", () -> docket.right(10, 0));
    }

    // Promise 15
    private static void dueDaysArePutOff() {
        FeeDocket docket = new FeeDocket();
        docket.holiday(3, 1);
        Dockets.passTo(docket, docket.day(0, 8, 31));
        docket.file(false);
        for (int year = 1; year <= 19; year++) {
            int due = docket.putOff(docket.day(year, 8, 31));
            int grace = docket.putOff(docket.day(year + 1, 2, (year + 1) % 4 == 0 ? 29 : 28));
            Check.same("due(" + year + ")", docket.due(0, year, false), due);
            Check.same("grace(" + year + ")", docket.due(0, year, true), grace);
        }
    }

    private static void dueRefuses() {
        FeeDocket docket = Dockets.withRights(false);
        int[] wrong = {0, -1, 20, Integer.MIN_VALUE, Integer.MAX_VALUE};
        for (int year : wrong) {
            Check.badArgument("due(0, " + year + ")", () -> docket.due(0, year, false));
            Check.badIndex("due(1, " + year + ")", () -> docket.due(1, year, true));
        }
        Check.badIndex("due(-1, 1)", () -> docket.due(-1, 1, true));
    }

    // Promise 19
    private static void valueTellsTheDocket() {
        FeeDocket docket = new FeeDocket();
        docket.holiday(12, 25);
        docket.file(false);
        docket.file(true);
        docket.file(false);
        Dockets.passTo(docket, 366);
        docket.pay(0);
        docket.pass(1);
        docket.pay(1);
        docket.pass(300);
        docket.revive(2);
        docket.setFees(1, 2, 3, 4);
        int[] due = {667, 3, 3, 0, 1, 120 + 90 + 180 + 300, 30 + 60, 300, 1, 2, 3, 4};
        for (int what = 0; what < due.length; what++) {
            Check.same("value(" + what + ")", docket.value(what), due[what]);
        }
        Dockets.passTo(docket, 7304);
        docket.undo();
        docket.pass(4000);
        Check.same("standing", docket.value(2), 0);
        Check.same("lapsed behind their end", docket.value(3), 3);
        int[] wrong = {-1, 12, Integer.MIN_VALUE, Integer.MAX_VALUE};
        for (int what : wrong) {
            Check.badArgument("value(" + what + ")", () -> docket.value(what));
        }
    }
}
