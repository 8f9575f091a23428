/** Promises 2 to 6: the calendar, working days and holidays. */
public final class CalendarTest {
    private static final int LAST_DAY = 29219;

    public static void main(String[] args) {
        datesAndDaysAgree();
        wrongDatesAndDays();
        laterKeepsToTheMonth();
        wrongLater();
        putOffSkipsWeekendsAndHolidays();
        holidaysComeAndGo();
        holidaysAreRefused();
        Check.done("CalendarTest");
    }

    // Promises 2 and 3: every day of the calendar, counted on from the first one.
    private static void datesAndDaysAgree() {
        int[] lengths = {31, 28, 31, 30, 31, 30, 31, 31, 30, 31, 30, 31};
        int number = 0;
        for (int year = 0; year <= 79; year++) {
            for (int month = 1; month <= 12; month++) {
                FeeDocket docket = new FeeDocket();
                int length = lengths[month - 1] + (month == 2 && year % 4 == 0 ? 1 : 0);
                for (int day = 1; day <= length; day++) {
                    Check.same("date(" + number + ")", docket.date(number), 10000 * year + 100 * month + day);
                    Check.same("day of " + number, docket.day(year, month, day), number);
                    number++;
                }
                int behind = length + 1;
                int ofYear = year;
                int ofMonth = month;
                Check.badArgument("day behind a month", () -> docket.day(ofYear, ofMonth, behind));
            }
        }
        Check.same("the days", number, LAST_DAY + 1);
    }

    private static void wrongDatesAndDays() {
        FeeDocket docket = new FeeDocket();
        int[] wrong = {-1, LAST_DAY + 1, Integer.MIN_VALUE, Integer.MAX_VALUE};
        for (int day : wrong) {
            Check.badArgument("date(" + day + ")", () -> docket.date(day));
            Check.badArgument("day(" + day + ", 1, 1)", () -> docket.day(day, 1, 1));
            Check.badArgument("day(1, " + day + ", 1)", () -> docket.day(1, day, 1));
            Check.badArgument("day(1, 1, " + day + ")", () -> docket.day(1, 1, day));
        }
        Check.badArgument("day(80, 1, 1)", () -> docket.day(80, 1, 1));
        Check.badArgument("day(0, 0, 1)", () -> docket.day(0, 0, 1));
        Check.badArgument("day(0, 13, 1)", () -> docket.day(0, 13, 1));
        Check.badArgument("day(0, 1, 0)", () -> docket.day(0, 1, 0));
    }

    // Promise 4
    private static void laterKeepsToTheMonth() {
        FeeDocket docket = new FeeDocket();
        Check.same("no months", docket.later(1234, 0), 1234);
        Check.same("31 January to 29 February", docket.date(docket.later(docket.day(3, 1, 31), 13)), 40229);
        Check.same("31 January to 28 February", docket.date(docket.later(docket.day(4, 1, 31), 13)), 50228);
        Check.same("29 February to 28 February", docket.date(docket.later(docket.day(4, 2, 29), 12)), 50228);
        Check.same("29 February to 29 February", docket.date(docket.later(docket.day(4, 2, 29), 48)), 80229);
        Check.same("28 February stays", docket.date(docket.later(docket.day(3, 2, 28), 12)), 40228);
        Check.same("31 August to 30 September", docket.date(docket.later(docket.day(1, 8, 31), 1)), 10930);
        Check.same("31 August to 31 October", docket.date(docket.later(docket.day(1, 8, 31), 2)), 11031);
        Check.same("December stays in its year", docket.date(docket.later(docket.day(7, 6, 15), 6)), 71215);
        Check.same("January of the next year", docket.date(docket.later(docket.day(7, 6, 15), 7)), 80115);
        Check.same("the farthest day", docket.date(docket.later(18262, 300)), 741231);
        for (int day = 0; day <= 18262; day += 13) {
            FeeDocket other = new FeeDocket();
            int date = other.date(day);
            int months = day % 301;
            int far = date / 10000 * 12 + date / 100 % 100 - 1 + months;
            int answer = other.date(other.later(day, months));
            Check.same("month", answer / 10000 * 12 + answer / 100 % 100 - 1, far);
            boolean isShorter = answer % 100 < date % 100;
            Check.same("day of the month", isShorter || answer % 100 == date % 100, true);
            Check.same("the last day", !isShorter || other.date(other.later(day, months) + 1) % 100 == 1, true);
        }
    }

    private static void wrongLater() {
        FeeDocket docket = new FeeDocket();
        Check.badArgument("later(-1, 0)", () -> docket.later(-1, 0));
        Check.badArgument("later(18263, 0)", () -> docket.later(18263, 0));
        Check.badArgument("later(0, -1)", () -> docket.later(0, -1));
        Check.badArgument("later(0, 301)", () -> docket.later(0, 301));
        Check.badArgument("later, largest", () -> docket.later(Integer.MAX_VALUE, Integer.MAX_VALUE));
        Check.badArgument("later, least", () -> docket.later(0, Integer.MIN_VALUE));
    }

    // Promise 5
    private static void putOffSkipsWeekendsAndHolidays() {
        FeeDocket docket = new FeeDocket();
        for (int day = 0; day < 70; day++) {
            Check.same("putOff(" + day + ")", docket.putOff(day), day % 7 < 5 ? day : day / 7 * 7 + 7);
        }
        // Days 7 to 11 and 14 are holidays: from day 5 on, day 15 is the first working day.
        for (int day = 8; day <= 12; day++) {
            docket.holiday(1, day);
        }
        docket.holiday(1, 15);
        Check.same("ten days off", docket.putOff(5), 15);
        Check.same("a holiday", docket.putOff(9), 15);
        Check.same("ahead of them", docket.putOff(4), 4);
        Check.same("in year 1 day 373 is 8 January", docket.putOff(373), 380 - 7 + 5);
        Check.same("the last argument", docket.putOff(28854), 28854);
        Check.badArgument("putOff(-1)", () -> docket.putOff(-1));
        Check.badArgument("putOff(28855)", () -> docket.putOff(28855));
        Check.badArgument("putOff, largest", () -> docket.putOff(Integer.MAX_VALUE));
        FeeDocket leap = new FeeDocket();
        leap.holiday(2, 29);
        Check.same("29 February in a long year", leap.putOff(leap.day(0, 2, 29)), 60);
        Check.same("none in a short year", leap.putOff(leap.day(1, 2, 28)), leap.day(1, 2, 28));
        FeeDocket newYear = new FeeDocket();
        newYear.holiday(12, 31);
        newYear.holiday(1, 1);
        Check.same("over the end of the year", newYear.putOff(365), 367);
    }

    // Promise 6
    private static void holidaysComeAndGo() {
        FeeDocket docket = new FeeDocket();
        Check.same("one", docket.holiday(1, 31), 1);
        Check.same("two", docket.holiday(2, 29), 2);
        Check.same("three", docket.holiday(4, 30), 3);
        Check.same("the first one goes", docket.holiday(1, 31), 2);
        Check.same("it works again", docket.putOff(30), 30);
        Check.same("the others stay", docket.putOff(59), 60);
        Check.same("the others stay", docket.putOff(docket.day(0, 4, 30)), docket.day(0, 5, 1));
        Check.same("value(4)", docket.value(4), 2);
        for (int day = 1; day <= 4; day++) {
            Check.same("more", docket.holiday(7, day), 2 + day);
        }
        Check.changesNothing("a seventh", docket, () -> docket.holiday(8, 1));
        Check.badState("a seventh", () -> docket.holiday(8, 1));
        Check.same("one of six goes", docket.holiday(7, 2), 5);
        Check.same("another comes", docket.holiday(8, 1), 6);
        Check.same("undo", docket.undo(), 3);
        Check.same("it is gone", docket.value(4), 5);
        Check.same("it is no holiday", docket.putOff(docket.day(1, 8, 1)), docket.day(1, 8, 1));
    }

    private static void holidaysAreRefused() {
        FeeDocket docket = new FeeDocket();
        int[][] wrong = {{0, 1}, {13, 1}, {1, 0}, {1, 32}, {2, 30}, {4, 31}, {6, 31}, {9, 31}, {11, 31},
            {Integer.MIN_VALUE, 1}, {Integer.MAX_VALUE, 1}, {1, Integer.MIN_VALUE}, {1, Integer.MAX_VALUE}};
        for (int[] pair : wrong) {
            Check.badArgument("holiday(" + pair[0] + ", " + pair[1] + ")", () -> docket.holiday(pair[0], pair[1]));
            Check.changesNothing("a wrong holiday", docket, () -> docket.holiday(pair[0], pair[1]));
        }
        docket.holiday(1, 1);
        docket.file(false);
        Check.badState("with a right", () -> docket.holiday(1, 2));
        Check.badState("taken away with a right", () -> docket.holiday(1, 1));
        Check.badArgument("the argument counts first", () -> docket.holiday(2, 30));
        docket.parse();
        Check.same("without rights again", docket.holiday(1, 2), 2);
    }
}
