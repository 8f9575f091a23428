/** "Terms", the calendar: a test for each sentence, with the boundaries that it names. */
public final class TermsCalendarTest {
    private static final int[] LENGTHS = {31, 28, 31, 30, 31, 30, 31, 31, 30, 31, 30, 31};

    public static void main(String[] args) {
        yearsAre0To79();
        everyFourthYearHas366Days();
        itsSecondMonthHas29Days();
        monthsHaveTheirLengths();
        monthsAre1To12();
        daysAreNumberedFrom0();
        weekendIs5And6();
        datesAreToldAsOneNumber();
        holidaysReturnEveryYear();
        holidayOf29FebruaryWaitsForItsYears();
        thereAreAtMostSixHolidays();
        monthsLaterKeepTheDayOfTheMonth();
        shorterMonthsGiveTheirLastDay();
        aWorkingDayStays();
        weekendsAndHolidaysAddUp();
        theFirstWorkingDayMayLieInTheNextYear();
        Check.done("TermsCalendarTest");
    }

    // "The years are 0 to 79"
    private static void yearsAre0To79() {
        FeeDocket docket = new FeeDocket();
        Check.same("the first day of year 0", docket.day(0, 1, 1), 0);
        Check.same("the last day of year 0", docket.day(0, 12, 31), 365);
        Check.same("the first day of year 79", docket.day(79, 1, 1), 28855);
        Check.same("the last day of year 79", docket.day(79, 12, 31), 29219);
        Check.badArgument("ahead of year 0", () -> docket.day(-1, 12, 31));
        Check.badArgument("behind year 79", () -> docket.day(80, 1, 1));
    }

    // "a year that is divisible by 4 has 366 days ..., the others have 365"
    private static void everyFourthYearHas366Days() {
        FeeDocket docket = new FeeDocket();
        for (int year = 0; year <= 79; year++) {
            int length = docket.day(year, 12, 31) - docket.day(year, 1, 1) + 1;
            Check.same("days of year " + year, length, year % 4 == 0 ? 366 : 365);
            if (year > 0) {
                int step = docket.day(year, 1, 1) - docket.day(year - 1, 12, 31);
                Check.same("year " + year + " begins behind the former one", step, 1);
            }
        }
    }

    // "with 29 days in its second month"
    private static void itsSecondMonthHas29Days() {
        FeeDocket docket = new FeeDocket();
        for (int year = 0; year <= 79; year++) {
            int ofYear = year;
            int last = docket.day(year, 2, 28);
            if (year % 4 == 0) {
                Check.same("29 February of " + year, docket.day(year, 2, 29), last + 1);
                Check.badArgument("30 February of " + year, () -> docket.day(ofYear, 2, 30));
                Check.same("behind 28 February of " + year, docket.date(last + 1), 10000 * year + 229);
            } else {
                Check.badArgument("29 February of " + year, () -> docket.day(ofYear, 2, 29));
                Check.same("behind 28 February of " + year, docket.date(last + 1), 10000 * year + 301);
            }
        }
    }

    // "the months 1 to 12 have 31, 28 (or 29), 31, 30, 31, 30, 31, 31, 30, 31, 30 and 31 days"
    private static void monthsHaveTheirLengths() {
        for (int year : new int[] {0, 1, 2, 3, 4, 76, 78, 79}) {
            FeeDocket docket = new FeeDocket();
            for (int month = 1; month <= 12; month++) {
                int ofMonth = month;
                int length = lengthOf(year, month);
                String name = "month " + month + " of year " + year;
                Check.same(name, docket.day(year, month, length) - docket.day(year, month, 1), length - 1);
                Check.badArgument("day 0 of " + name, () -> docket.day(year, ofMonth, 0));
                Check.badArgument("a day behind " + name, () -> docket.day(year, ofMonth, length + 1));
                Check.same("the end of " + name, docket.date(docket.day(year, month, length)),
                    10000 * year + 100 * month + length);
                if (month < 12) {
                    Check.same("behind " + name, docket.date(docket.day(year, month, length) + 1),
                        10000 * year + 100 * (month + 1) + 1);
                }
            }
        }
    }

    private static void monthsAre1To12() {
        FeeDocket docket = new FeeDocket();
        Check.same("month 1", docket.day(1, 1, 1), 366);
        Check.same("month 12", docket.day(1, 12, 1), 700);
        Check.badArgument("month 0", () -> docket.day(1, 0, 1));
        Check.badArgument("month 13", () -> docket.day(1, 13, 1));
    }

    // "Days are numbered from 0, the first day of year 0."
    private static void daysAreNumberedFrom0() {
        int number = 0;
        for (int year = 0; year <= 79; year++) {
            for (int half = 0; half < 2; half++) {
                FeeDocket docket = new FeeDocket();
                for (int month = 6 * half + 1; month <= 6 * half + 6; month++) {
                    for (int day = 1; day <= lengthOf(year, month); day++) {
                        int date = 10000 * year + 100 * month + day;
                        Check.same("the number of " + date, docket.day(year, month, day), number);
                        Check.same("date(" + number + ")", docket.date(number), date);
                        number++;
                    }
                }
            }
        }
        Check.same("the days of the calendar", number, 29220);
    }

    // "The weekday of a day is its number modulo 7; 5 and 6 are the weekend."
    private static void weekendIs5And6() {
        FeeDocket docket = new FeeDocket();
        for (int first : new int[] {0, 7, 700, 18256, 28847}) {
            Check.same("weekday 0 of week " + first, docket.putOff(first), first);
            Check.same("weekday 4 of week " + first, docket.putOff(first + 4), first + 4);
            Check.same("weekday 5 of week " + first, docket.putOff(first + 5), first + 7);
            Check.same("weekday 6 of week " + first, docket.putOff(first + 6), first + 7);
            Check.same("weekday 0 behind week " + first, docket.putOff(first + 7), first + 7);
        }
    }

    // "A date is told as 10000 * year + 100 * month + (day of the month)."
    private static void datesAreToldAsOneNumber() {
        FeeDocket docket = new FeeDocket();
        Check.same("day 0", docket.date(0), 101);
        Check.same("day 8", docket.date(8), 109);
        Check.same("day 9", docket.date(9), 110);
        Check.same("day 274", docket.date(274), 1001);
        Check.same("the last day of year 0", docket.date(365), 1231);
        Check.same("the first day of year 1", docket.date(366), 10101);
        Check.same("the last day of year 9", docket.date(docket.day(9, 12, 31)), 91231);
        Check.same("the first day of year 10", docket.date(docket.day(10, 1, 1)), 100101);
        Check.same("the last day of all", docket.date(29219), 791231);
    }

    // "A holiday is a month and a day of the month, in every year that has it"
    private static void holidaysReturnEveryYear() {
        FeeDocket docket = new FeeDocket();
        docket.holiday(1, 1);
        docket.holiday(3, 1);
        docket.holiday(12, 31);
        for (int year = 0; year <= 78; year++) {
            for (int day : new int[] {docket.day(year, 1, 1), docket.day(year, 3, 1), docket.day(year, 12, 31)}) {
                if (day <= 28854) {
                    Check.same("putOff(" + day + ")", docket.putOff(day), working(day, 101, 301, 1231));
                }
            }
        }
    }

    private static void holidayOf29FebruaryWaitsForItsYears() {
        FeeDocket docket = new FeeDocket();
        docket.holiday(2, 29);
        int skipped = 0;
        for (int year = 0; year <= 78; year++) {
            int last = docket.day(year, 2, 28);
            for (int day = last; day <= last + 2; day++) {
                int due = working(day, 229);
                skipped += day % 7 < 5 && due > day ? 1 : 0;
                Check.same("putOff(" + day + ")", docket.putOff(day), due);
            }
        }
        Check.same("years in which 29 February is a weekday", skipped, 15);
    }

    // "there are at most 6 holidays"
    private static void thereAreAtMostSixHolidays() {
        FeeDocket docket = new FeeDocket();
        for (int day = 1; day <= 6; day++) {
            Check.same("holiday " + day, docket.holiday(1, day), day);
        }
        Check.badState("a seventh", () -> docket.holiday(1, 7));
        Check.same("still six", docket.value(4), 6);
        Check.same("day 6 of the weekend ends on day 7", docket.putOff(0), 7);
    }

    // "Some months after a day means the same day of the month, that many months later"
    private static void monthsLaterKeepTheDayOfTheMonth() {
        for (int first : new int[] {0, 14, 27, 365, 1460, 18262 - 3}) {
            FeeDocket docket = new FeeDocket();
            for (int months = 0; months <= 300; months++) {
                Check.same("later(" + first + ", " + months + ")", docket.later(first, months), later(first, months));
            }
        }
        FeeDocket docket = new FeeDocket();
        Check.same("no months", docket.later(59, 0), 59);
        Check.same("28 February stays the 28th in a long year", docket.date(docket.later(789, 24)), 40228);
        Check.same("December to January", docket.date(docket.later(365, 1)), 10131);
        Check.same("January to December", docket.date(docket.later(30, 11)), 1231);
    }

    // "if that month is shorter, its last day"
    private static void shorterMonthsGiveTheirLastDay() {
        for (int first : new int[] {28, 29, 30, 59, 90, 364, 365, 1520, 18262}) {
            FeeDocket docket = new FeeDocket();
            for (int months = 0; months <= 300; months++) {
                Check.same("later(" + first + ", " + months + ")", docket.later(first, months), later(first, months));
            }
        }
        FeeDocket docket = new FeeDocket();
        Check.same("31 January, a month later", docket.later(30, 1), 59);
        Check.same("30 January, a month later", docket.later(29, 1), 59);
        Check.same("29 January, a month later", docket.later(28, 1), 59);
        Check.same("31 January, 13 months later", docket.later(30, 13), 424);
        Check.same("29 January, 13 months later", docket.later(28, 13), 424);
        Check.same("28 January, 13 months later", docket.later(27, 13), 424);
        Check.same("29 February, a year later", docket.later(59, 12), 424);
        Check.same("29 February, four years later", docket.later(59, 48), 1520);
        Check.same("31 March, a month later", docket.later(90, 1), 120);
        Check.same("the day of the month is not lost", docket.later(30, 2), 90);
    }

    // "A working day is a day that is neither of the weekend nor a holiday."
    private static void aWorkingDayStays() {
        FeeDocket docket = new FeeDocket();
        docket.holiday(1, 3);
        Check.same("ahead of the holiday", docket.putOff(1), 1);
        Check.same("the holiday", docket.putOff(2), 3);
        Check.same("behind the holiday", docket.putOff(3), 3);
        Check.same("ahead of the weekend", docket.putOff(4), 4);
        Check.same("behind the weekend", docket.putOff(7), 7);
    }

    // "A day is put off to the first working day from it on."
    private static void weekendsAndHolidaysAddUp() {
        FeeDocket docket = new FeeDocket();
        // Day 4 is the last of its week, day 6 of the weekend, day 7 the first of the next week.
        docket.holiday(1, 5);
        Check.same("a holiday ahead of the weekend", docket.putOff(4), 7);
        docket.holiday(1, 7);
        Check.same("a holiday of the weekend", docket.putOff(4), 7);
        docket.holiday(1, 8);
        Check.same("a holiday behind the weekend", docket.putOff(4), 8);
        Check.same("from the weekend's first day", docket.putOff(5), 8);
        Check.same("from the weekend's second day", docket.putOff(6), 8);
        Check.same("from the holiday behind it", docket.putOff(7), 8);
        docket.holiday(1, 7);
        Check.same("the holiday of the weekend taken away", docket.putOff(4), 8);
        FeeDocket long6 = new FeeDocket();
        for (int day : new int[] {5, 8, 9, 10, 11, 12}) {
            long6.holiday(1, day);
        }
        Check.same("six holidays round two weekends", long6.putOff(4), 14);
        Check.same("ahead of them", long6.putOff(3), 3);
    }

    private static void theFirstWorkingDayMayLieInTheNextYear() {
        FeeDocket docket = new FeeDocket();
        docket.holiday(12, 31);
        docket.holiday(1, 1);
        docket.holiday(1, 2);
        for (int year = 0; year <= 78; year++) {
            int last = docket.day(year, 12, 31);
            Check.same("the end of year " + year, docket.putOff(last), working(last, 1231, 101, 102));
        }
    }

    private static int lengthOf(int year, int month) {
        return month == 2 && year % 4 == 0 ? 29 : LENGTHS[month - 1];
    }

    /** The first working day by the dates alone, with these holidays as 100 * month + day of the month. */
    private static int working(int day, int... holidays) {
        int working = day;
        boolean isOff = true;
        while (isOff) {
            isOff = working % 7 == 5 || working % 7 == 6;
            for (int holiday : holidays) {
                isOff = isOff || Model.DATES[working] % 10000 == holiday;
            }
            working += isOff ? 1 : 0;
        }
        return working;
    }

    private static int later(int day, int months) {
        int date = Model.DATES[day];
        int total = 12 * (date / 10000) + date / 100 % 100 - 1 + months;
        int length = lengthOf(total / 12, total % 12 + 1);
        return Model.DAYS.get(10000 * (total / 12) + 100 * (total % 12 + 1) + Math.min(length, date % 100));
    }
}
