/** "Terms", rights, paying and the lapse: a test for each sentence, with the boundaries that it names. */
public final class TermsRightsTest {
    public static void main(String[] args) {
        thereAreAtMostTenRights();
        filingEndsWithYear49();
        lifeEndsBehind240Months();
        lastDayIsNotPutOff();
        yearsOfFeesAre1To19();
        dueDaysArePutOff();
        graceEndsArePutOff();
        holidaysPutDueDaysOff();
        daysAreCountedFromTheFiling();
        shorterMonthsMoveTheirDays();
        daysOfEveryFiling();
        feeGrowsByTheYear();
        feesAreInitially100And20();
        leastAndGreatestFees();
        halfIsRoundedUp();
        surchargeBeginsBehindTheDueDay();
        surchargeBehindAnUnmovedDayOnly();
        surchargeIsRoundedDown();
        percentIs0To100();
        yearsArePaidInTheirOrder();
        payingBegins90DaysAhead();
        payingBegins90DaysAheadOfThePutOffDay();
        payingEndsWithTheGrace();
        lapseComesBehindTheGrace();
        lapseReachesBackBehindTheDueDay();
        paidRightsDoNotLapse();
        lapseOfTheLastYear();
        lapsedRightsStayLapsed();
        Check.done("TermsRightsTest");
    }

    // "There are at most 10 rights, numbered from 0."
    private static void thereAreAtMostTenRights() {
        FeeDocket docket = new FeeDocket();
        Check.badIndex("right 0 of none", () -> docket.right(0, 0));
        for (int right = 0; right < 10; right++) {
            Check.same("the number", docket.file(right % 3 == 0), right);
            Check.same("the rights", docket.value(1), right + 1);
        }
        Check.badState("an eleventh", () -> docket.file(false));
        for (int right = 0; right < 10; right++) {
            Check.same("small " + right, docket.right(right, 1), right % 3 == 0 ? 1 : 0);
        }
        Check.badIndex("right 10", () -> docket.right(10, 0));
        Check.badIndex("right -1", () -> docket.right(-1, 0));
    }

    // "A right was filed on a day, up to the end of year 49"
    private static void filingEndsWithYear49() {
        FeeDocket docket = Dockets.on(18262);
        Check.same("today", docket.date(docket.value(0)), 491231);
        Check.same("on the last day", docket.file(false), 0);
        Check.same("filed", docket.right(0, 0), 18262);
        docket.pass(1);
        Check.same("today", docket.date(docket.value(0)), 500101);
        Check.badState("behind it", () -> docket.file(false));
        FeeDocket first = new FeeDocket();
        first.file(false);
        Check.same("on the first day", first.right(0, 0), 0);
    }

    // "its last day is the day before the day that is 240 months after the filing"
    private static void lifeEndsBehind240Months() {
        int[][] filedAndLast = {{0, 191231}, {31, 200131}, {59, 200228}, {60, 200229}, {365, 201230},
            {366, 201231}, {424, 210227}, {425, 210228}, {18262, 691230}};
        for (int[] pair : filedAndLast) {
            FeeDocket docket = Dockets.withRightOn(pair[0], false);
            Check.same("the last day of " + pair[0], docket.date(docket.right(0, 8)), pair[1]);
            Check.same("it is ahead of 240 months", docket.right(0, 8), docket.later(pair[0], 240) - 1);
        }
        FeeDocket docket = Dockets.paidUpTo(19);
        Dockets.passTo(docket, docket.right(0, 8));
        Check.same("it stands on its last day", docket.value(2), 1);
        docket.pass(1);
        Check.same("not behind it", docket.value(2), 0);
        Check.same("its last day stays", docket.stood(0, docket.value(0) - 1), true);
        Check.same("the day behind it", docket.stood(0, docket.value(0)), false);
    }

    private static void lastDayIsNotPutOff() {
        int weekends = 0;
        for (int filed = 0; filed < 14; filed++) {
            FeeDocket docket = Dockets.withRightOn(filed, false);
            int last = docket.day(20, 1, filed + 1) - 1;
            weekends += last % 7 >= 5 ? 1 : 0;
            Check.same("the last day", docket.right(0, 8), last);
        }
        Check.same("weekends among them", weekends, 4);
    }

    // "For each k from 1 to 19, a fee for year k is due"
    private static void yearsOfFeesAre1To19() {
        FeeDocket docket = Dockets.withRights(false);
        Check.same("the first year", docket.right(0, 3), 1);
        Check.badArgument("year 0", () -> docket.due(0, 0, false));
        Check.same("due(1)", docket.due(0, 1, false), 366);
        Check.same("due(19)", docket.due(0, 19, false), docket.putOff(docket.day(19, 1, 1)));
        Check.badArgument("year 20", () -> docket.due(0, 20, false));
        FeeDocket paid = Dockets.paidUpTo(18);
        Check.same("the last year", paid.right(0, 3), 19);
        Dockets.passTo(paid, paid.due(0, 19, false));
        paid.pay(0);
        Check.same("no year behind it", paid.right(0, 3), FeeDocket.NONE);
    }

    // "due on the day that is 12 * k months after the filing, put off; this is due(k)"
    private static void dueDaysArePutOff() {
        int moved = 0;
        for (int filed = 0; filed < 21; filed++) {
            FeeDocket docket = Dockets.withRightOn(filed, false);
            for (int year = 1; year <= 19; year++) {
                int day = docket.day(year, 1, filed + 1);
                moved += day % 7 >= 5 ? 1 : 0;
                Check.same("due(" + year + ") of " + filed, docket.due(0, year, false), behindWeekend(day));
            }
        }
        Check.same("some of them are put off", moved > 50, true);
    }

    // "The grace ends on the day that is 12 * k + 6 months after the filing, put off; this is grace(k)."
    private static void graceEndsArePutOff() {
        int moved = 0;
        for (int filed = 0; filed < 21; filed++) {
            FeeDocket docket = Dockets.withRightOn(filed, true);
            for (int year = 1; year <= 19; year++) {
                int day = docket.day(year, 7, filed + 1);
                moved += day % 7 >= 5 ? 1 : 0;
                Check.same("grace(" + year + ") of " + filed, docket.due(0, year, true), behindWeekend(day));
            }
        }
        Check.same("some of them are put off", moved > 50, true);
    }

    private static void holidaysPutDueDaysOff() {
        FeeDocket docket = new FeeDocket();
        docket.holiday(1, 1);
        docket.holiday(1, 2);
        docket.holiday(7, 1);
        docket.file(false);
        // Day 366 is 1 January of year 1 and weekday 2; day 547 is 1 July and weekday 1.
        Check.same("due(1)", docket.due(0, 1, false), 368);
        Check.same("grace(1)", docket.due(0, 1, true), 548);
        // Day 1096 is weekday 4: the holidays lead to the weekend.
        Check.same("due(3)", docket.due(0, 3, false), 1099);
        Check.same("right(0, 4)", docket.right(0, 4), 368);
        Check.same("right(0, 5)", docket.right(0, 5), 548);
    }

    // The day of filing itself is not put off, and no year rests on the put-off day of another.
    private static void daysAreCountedFromTheFiling() {
        FeeDocket docket = Dockets.withRightOn(5, false);
        Check.same("filed on the weekend", docket.right(0, 0), 5);
        Check.same("due(1)", docket.due(0, 1, false), 371);
        Check.same("grace(1)", docket.due(0, 1, true), 553);
        Check.same("due(2)", docket.due(0, 2, false), 736);
        Check.same("grace(2)", docket.due(0, 2, true), 917);
    }

    private static void shorterMonthsMoveTheirDays() {
        FeeDocket docket = Dockets.withRightOn(59, false);
        Check.same("29 February, due(1)", docket.date(docket.due(0, 1, false)), 10228);
        Check.same("29 February, due(4)", docket.date(docket.due(0, 4, false)), 40229);
        Check.same("29 February, grace(1)", docket.due(0, 1, true), docket.putOff(docket.day(1, 8, 29)));
        FeeDocket august = Dockets.withRightOn(243, false);
        Check.same("filed on 31 August", august.date(243), 831);
        for (int year = 1; year <= 19; year++) {
            int length = (year + 1) % 4 == 0 ? 29 : 28;
            Check.same("due(" + year + ")", august.due(0, year, false), behindWeekend(august.day(year, 8, 31)));
            Check.same("grace(" + year + ")", august.due(0, year, true),
                behindWeekend(august.day(year + 1, 2, length)));
        }
    }

    // Four years of filings, with six holidays at the ends of months and years.
    private static void daysOfEveryFiling() {
        int[] holidays = {101, 228, 229, 630, 701, 1231};
        Model calendar = new Model();
        for (int holiday : holidays) {
            calendar.holiday(holiday / 100, holiday % 100);
        }
        for (int filed = 0; filed < 1461; filed++) {
            FeeDocket docket = new FeeDocket();
            for (int holiday : holidays) {
                docket.holiday(holiday / 100, holiday % 100);
            }
            Dockets.passTo(docket, filed);
            docket.file(false);
            Check.same("the last day of " + filed, docket.right(0, 8), Model.months(filed, 240) - 1);
            for (int year = 1; year <= 19; year++) {
                String of = "(" + year + ") of " + filed;
                Check.same("due" + of, docket.due(0, year, false), calendar.off(Model.months(filed, 12 * year)));
                Check.same("grace" + of, docket.due(0, year, true), calendar.off(Model.months(filed, 12 * year + 6)));
            }
        }
    }

    // "The fee for year k is base + step * k"
    private static void feeGrowsByTheYear() {
        FeeDocket docket = Dockets.withRights(false);
        docket.setFees(7, 3, 0, 0);
        for (int year = 1; year <= 19; year++) {
            Dockets.passTo(docket, docket.due(0, year, false) - 90);
            Check.same("the fee for year " + year, docket.right(0, 6), 7 + 3 * year);
            Check.same("paid for year " + year, docket.pay(0), 7 + 3 * year);
        }
    }

    // "base ..., initially 100, and step ..., initially 20"; "percent ..., initially 50"; "petition ..., initially 300"
    private static void feesAreInitially100And20() {
        FeeDocket docket = Dockets.withRights(false);
        Check.same("base", docket.value(8), 100);
        Check.same("step", docket.value(9), 20);
        Check.same("percent", docket.value(10), 50);
        Check.same("petition", docket.value(11), 300);
        Check.same("the first fee", docket.right(0, 6), 120);
        Dockets.passTo(docket, 548);
        Check.same("all of them", docket.revive(0), 120 + 60 + 300);
    }

    // "base is 0 to 9999 ..., and step 0 to 999"
    private static void leastAndGreatestFees() {
        FeeDocket docket = Dockets.paidUpTo(18);
        docket.setFees(0, 0, 100, 0);
        Check.same("nothing for year 19", docket.right(0, 6), 0);
        docket.setFees(0, 1, 100, 0);
        Check.same("the least step", docket.right(0, 6), 19);
        docket.setFees(9999, 999, 100, 9999);
        Check.same("the most for year 19", docket.right(0, 6), 28980);
        Dockets.passTo(docket, docket.due(0, 19, false) + 1);
        Check.same("with the surcharge", docket.right(0, 6), 57960);
        Dockets.passTo(docket, docket.due(0, 19, true) + 1);
        Check.same("with the petition", docket.revive(0), 67959);
        FeeDocket free = Dockets.withRights(true);
        free.setFees(0, 0, 0, 0);
        Dockets.passTo(free, 548);
        Check.same("revived for nothing", free.revive(0), 0);
        Check.same("paid for nothing", free.right(0, 2), 1);
        Check.same("a gap", free.right(0, 9), 1);
    }

    // "for a small right it is half of that, rounded up"
    private static void halfIsRoundedUp() {
        FeeDocket docket = Dockets.withRights(true);
        int[][] wholeAndHalf = {{0, 0}, {1, 1}, {2, 1}, {3, 2}, {120, 60}, {121, 61}, {9998, 4999}, {9999, 5000}};
        for (int[] pair : wholeAndHalf) {
            docket.setFees(pair[0], 0, 50, 0);
            Check.same("half of " + pair[0], docket.right(0, 6), pair[1]);
        }
        docket.setFees(100, 21, 0, 0);
        Check.same("half of base and step together", docket.right(0, 6), 61);
        docket.setFees(9999, 999, 0, 0);
        Check.same("half of the most for year 1", docket.right(0, 6), 5499);
    }

    // "In the grace (behind due(k), up to grace(k)) a surcharge is added"
    private static void surchargeBeginsBehindTheDueDay() {
        FeeDocket docket = Dockets.withRights(false);
        Dockets.passTo(docket, 366);
        Check.same("on due(1)", docket.pay(0), 120);
        Check.same("no surcharge", docket.value(6), 0);
        docket.undo();
        docket.pass(1);
        Check.same("behind due(1)", docket.right(0, 6), 180);
        Check.same("behind due(1)", docket.pay(0), 180);
        Check.same("the surcharge", docket.value(6), 60);
        docket.undo();
        Dockets.passTo(docket, 547);
        Check.same("on grace(1)", docket.pay(0), 180);
        Check.same("the surcharge", docket.value(6), 60);
    }

    // Filed on day 3, the day 12 months later is of the weekend: due(1) is day 371.
    private static void surchargeBehindAnUnmovedDayOnly() {
        FeeDocket docket = Dockets.withRightOn(3, false);
        Check.same("due(1)", docket.due(0, 1, false), 371);
        Dockets.passTo(docket, 370);
        Check.same("on the weekend", docket.right(0, 6), 120);
        docket.pass(1);
        Check.same("on the put-off day", docket.right(0, 6), 120);
        Check.same("costs on the put-off day", docket.costs(0), 120);
        docket.pass(1);
        Check.same("behind it", docket.right(0, 6), 180);
        Check.same("costs behind it", docket.costs(0), 180);
    }

    // "percent * fee / 100", and "a / b means division rounded down"
    private static void surchargeIsRoundedDown() {
        FeeDocket docket = Dockets.withRights(false, true);
        Dockets.passTo(docket, 367);
        int[][] feePercentSurcharge = {{99, 1, 0}, {100, 1, 1}, {199, 1, 1}, {200, 1, 2}, {1, 99, 0}, {1, 100, 1},
            {2, 99, 1}, {3, 33, 0}, {3, 34, 1}, {9999, 99, 9899}, {9999, 1, 99}};
        for (int[] row : feePercentSurcharge) {
            docket.setFees(row[0], 0, row[1], 0);
            Check.same(row[1] + " percent of " + row[0], docket.right(0, 6), row[0] + row[2]);
        }
        // Of the small right's half, not of the whole.
        docket.setFees(199, 0, 1, 0);
        Check.same("1 percent of 100", docket.right(1, 6), 101);
        docket.setFees(197, 0, 1, 0);
        Check.same("1 percent of 99", docket.right(1, 6), 99);
        docket.setFees(5, 0, 50, 0);
        Check.same("50 percent of 3", docket.right(1, 6), 4);
    }

    // "where percent is 0 to 100"
    private static void percentIs0To100() {
        FeeDocket docket = Dockets.withRights(false, true);
        Dockets.passTo(docket, 367);
        docket.setFees(101, 0, 0, 0);
        Check.same("no surcharge", docket.pay(0), 101);
        Check.same("no surcharge", docket.pay(1), 51);
        Check.same("value(6)", docket.value(6), 0);
        docket.undo();
        docket.undo();
        docket.setFees(101, 0, 100, 0);
        Check.same("as much again", docket.pay(0), 202);
        Check.same("as much again", docket.pay(1), 102);
        Check.same("value(6)", docket.value(6), 152);
    }

    // "Fees are paid in the order of the years."
    private static void yearsArePaidInTheirOrder() {
        FeeDocket docket = Dockets.withRights(false);
        for (int year = 1; year <= 19; year++) {
            Dockets.passTo(docket, docket.due(0, year, false) - 90);
            Check.same("the next year", docket.right(0, 3), year);
            docket.pay(0);
            Check.same("the fees that are paid", docket.right(0, 2), year);
        }
    }

    // "from 90 days before due(k) on"
    private static void payingBegins90DaysAhead() {
        FeeDocket docket = Dockets.withRights(false);
        for (int year = 1; year <= 19; year++) {
            Dockets.passTo(docket, docket.due(0, year, false) - 91);
            Check.badState("91 days ahead of due(" + year + ")", () -> docket.pay(0));
            Check.same("payAll() then", docket.payAll(), 0);
            docket.pass(1);
            Check.same("90 days ahead of due(" + year + ")", docket.pay(0), 100 + 20 * year);
        }
    }

    // The day 12 months after day 3 is day 369; due(1) is day 371.
    private static void payingBegins90DaysAheadOfThePutOffDay() {
        FeeDocket docket = Dockets.withRightOn(3, false);
        Dockets.passTo(docket, 371 - 91);
        Check.badState("91 days ahead", () -> docket.pay(0));
        docket.pass(1);
        Check.same("90 days ahead", docket.pay(0), 120);
    }

    // "up to grace(k), on today"
    private static void payingEndsWithTheGrace() {
        // grace(1) of day 4 is put off from day 551 to day 553.
        for (int filed : new int[] {0, 4}) {
            FeeDocket docket = Dockets.withRightOn(filed, false);
            int grace = docket.due(0, 1, true);
            Check.same("grace(1)", grace, filed == 0 ? 547 : 553);
            Dockets.passTo(docket, grace);
            Check.same("on grace(1)", docket.pay(0), 180);
            docket.undo();
            docket.pass(1);
            Check.badState("behind grace(1)", () -> docket.pay(0));
            Check.same("payAll() behind grace(1)", docket.payAll(), 0);
        }
    }

    // "A right whose fee for year k is not paid on the day behind grace(k) is lapsed from then on"
    private static void lapseComesBehindTheGrace() {
        FeeDocket docket = Dockets.withRightOn(4, false);
        Dockets.passTo(docket, 553);
        Check.same("on grace(1)", docket.right(0, 7), 0);
        Check.same("it stands", docket.value(2), 1);
        Check.same("one lapses", docket.pass(1), 1);
        Check.same("behind grace(1)", docket.right(0, 7), 1);
        Check.same("it does not stand", docket.value(2), 0);
        Check.same("value(3)", docket.value(3), 1);
    }

    // "it has then not been standing since the day behind due(k)"
    private static void lapseReachesBackBehindTheDueDay() {
        FeeDocket docket = Dockets.withRightOn(3, false);
        int due = docket.due(0, 1, false);
        int grace = docket.due(0, 1, true);
        Dockets.passTo(docket, grace);
        stands(docket, due, true);
        stands(docket, due + 1, true);
        stands(docket, grace, true);
        docket.pass(1);
        stands(docket, due - 1, true);
        stands(docket, due, true);
        stands(docket, due + 1, false);
        stands(docket, grace, false);
        stands(docket, grace + 1, false);
    }

    private static void paidRightsDoNotLapse() {
        FeeDocket docket = Dockets.withRights(false, false, false);
        Dockets.passTo(docket, 276);
        docket.pay(0);
        Dockets.passTo(docket, 547);
        docket.pay(1);
        Check.same("the third lapses", docket.pass(1), 1);
        Check.same("paid at the first day", docket.right(0, 7), 0);
        Check.same("paid at the last day", docket.right(1, 7), 0);
        Check.same("not paid", docket.right(2, 7), 1);
        Check.same("the two lapse for year 2", docket.pass(912 - 547), 2);
    }

    private static void lapseOfTheLastYear() {
        FeeDocket docket = Dockets.paidUpTo(18);
        Dockets.passTo(docket, docket.due(0, 19, true));
        Check.same("on grace(19)", docket.right(0, 7), 0);
        Check.same("behind grace(19)", docket.pass(1), 1);
        Check.same("lapsed", docket.right(0, 7), 1);
        FeeDocket paid = Dockets.paidUpTo(19);
        Check.same("all are paid", paid.pass(4000), 0);
        Check.same("never lapsed", paid.right(0, 7), 0);
    }

    private static void lapsedRightsStayLapsed() {
        FeeDocket docket = Dockets.withRights(false);
        Dockets.passTo(docket, docket.right(0, 8));
        Check.same("on the last day", docket.right(0, 7), 1);
        Check.same("behind the last day none lapses", docket.pass(1), 0);
        Check.same("lapsed from then on", docket.right(0, 7), 1);
        Check.same("value(3)", docket.value(3), 1);
    }

    private static int behindWeekend(int day) {
        return day % 7 < 5 ? day : day - day % 7 + 7;
    }

    private static void stands(FeeDocket docket, int day, boolean due) {
        String on = "(0, " + day + ") on " + docket.value(0);
        Check.same("stood" + on, docket.stood(0, day), due);
        Check.same("covered" + on, docket.covered(0, day), due);
    }
}
