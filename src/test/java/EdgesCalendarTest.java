import java.math.BigInteger;
import java.util.function.Consumer;

/** Promises 1 to 6: the least and the greatest arguments, what is beyond them, and what a refused call leaves. */
public final class EdgesCalendarTest {
    private static final int[] FAR = {Integer.MIN_VALUE, Integer.MIN_VALUE + 1, Integer.MAX_VALUE - 1, Integer.MAX_VALUE};

    public static void main(String[] args) {
        newObjectIsEmpty();
        newObjectsAreApart();
        dateTakesTheWholeCalendar();
        dateRefusesOtherDays();
        dayTakesTheWholeCalendar();
        dayRefusesOtherYears();
        dayRefusesOtherMonths();
        dayRefusesOtherDaysOfTheMonth();
        laterTakesItsDaysAndMonths();
        laterRefusesOtherDaysAndMonths();
        putOffTakesItsDays();
        putOffGoesOnBehindYear78();
        putOffRefusesOtherDays();
        holidayTakesEveryDayOfAYear();
        holidayRefusesOtherDays();
        holidayComesAndGoes();
        sixHolidaysAndNoSeventh();
        holidayIsRefusedWithRights();
        holidayIsUndoable();
        Check.done("EdgesCalendarTest");
    }

    // Promise 1: "Creates a docket without rights and holidays, on day 0."
    private static void newObjectIsEmpty() {
        FeeDocket docket = new FeeDocket();
        int[] values = {0, 0, 0, 0, 0, 0, 0, 0, 100, 20, 50, 300};
        for (int what = 0; what < values.length; what++) {
            Check.same("value(" + what + ")", docket.value(what), values[what]);
        }
        for (int day = 0; day < 380; day++) {
            Check.same("putOff(" + day + ")", docket.putOff(day), day % 7 < 5 ? day : day - day % 7 + 7);
        }
        Check.badIndex("right(0, 0)", () -> docket.right(0, 0));
        Check.same("nextDue()", docket.nextDue(), FeeDocket.NONE);
        Check.same("costs(4000)", docket.costs(4000), 0);
        Check.same("lapsing(4000)", docket.lapsing(4000), 0);
        Check.same("digest()", docket.digest(), emptyDigest());
        Check.badState("undo()", docket::undo);
        Check.same("parse()", docket.parse(), 0);
        Check.same("clearText()", docket.clearText(), 0);
    }

    private static long emptyDigest() {
        int[] values = {0, 0, 0, 0, 0, 0, 0, 0, 0, 100, 20, 50, 300, 101, -1, 0};
        BigInteger hash = BigInteger.valueOf(3469);
        for (int value : values) {
            hash = hash.multiply(BigInteger.valueOf(31)).add(BigInteger.valueOf(value));
        }
        return hash.longValue();
    }

    private static void newObjectsAreApart() {
        FeeDocket docket = Dockets.busy();
        Check.same("a new object beside a busy one", new FeeDocket().digest(), emptyDigest());
        Check.same("a new object's picture", Picture.of(new FeeDocket()), Picture.of(new FeeDocket()));
        Check.same("the busy one stays", docket.value(1), 4);
    }

    // Promise 2: "day: 0 or more, at most the last day of year 79"
    private static void dateTakesTheWholeCalendar() {
        FeeDocket docket = new FeeDocket();
        Check.same("date(0)", docket.date(0), 101);
        Check.same("date(1)", docket.date(1), 102);
        Check.same("date(29218)", docket.date(29218), 791230);
        Check.same("date(29219)", docket.date(29219), 791231);
    }

    // "Throws IllegalArgumentException if day is out of range"
    private static void dateRefusesOtherDays() {
        for (int day : numbers(-1, 29220)) {
            refused("date(" + day + ")", docket -> docket.date(day));
        }
    }

    // Promise 3: "year: 0 to 79", "month: 1 to 12", "day: a day of this month"
    private static void dayTakesTheWholeCalendar() {
        FeeDocket docket = new FeeDocket();
        Check.same("day(0, 1, 1)", docket.day(0, 1, 1), 0);
        Check.same("day(0, 1, 31)", docket.day(0, 1, 31), 30);
        Check.same("day(0, 12, 1)", docket.day(0, 12, 1), 335);
        Check.same("day(0, 12, 31)", docket.day(0, 12, 31), 365);
        Check.same("day(79, 1, 1)", docket.day(79, 1, 1), 28855);
        Check.same("day(79, 12, 31)", docket.day(79, 12, 31), 29219);
        Check.same("day(76, 2, 29)", docket.day(76, 2, 29), 27818);
        Check.same("day(79, 2, 28)", docket.day(79, 2, 28), 28913);
    }

    // "Throws IllegalArgumentException if an argument is out of range"
    private static void dayRefusesOtherYears() {
        for (int year : numbers(-1, 80)) {
            refused("day(" + year + ", 1, 1)", docket -> docket.day(year, 1, 1));
        }
        refused("day(-4, 2, 29)", docket -> docket.day(-4, 2, 29));
        refused("day(80, 2, 29)", docket -> docket.day(80, 2, 29));
    }

    private static void dayRefusesOtherMonths() {
        for (int month : numbers(0, 13)) {
            refused("day(0, " + month + ", 1)", docket -> docket.day(0, month, 1));
        }
        refused("day(0, -1, 1)", docket -> docket.day(0, -1, 1));
    }

    private static void dayRefusesOtherDaysOfTheMonth() {
        int[] lengths = {31, 29, 31, 30, 31, 30, 31, 31, 30, 31, 30, 31};
        for (int index = 0; index < 12; index++) {
            int month = index + 1;
            int behind = lengths[index] + 1;
            refused("day 0 of month " + month, docket -> docket.day(0, month, 0));
            refused("a day behind month " + month, docket -> docket.day(0, month, behind));
        }
        for (int day : numbers(-1, 32)) {
            refused("day(0, 1, " + day + ")", docket -> docket.day(0, 1, day));
        }
        refused("29 February of year 1", docket -> docket.day(1, 2, 29));
        refused("29 February of year 2", docket -> docket.day(2, 2, 29));
        refused("29 February of year 79", docket -> docket.day(79, 2, 29));
    }

    // Promise 4: "day: 0 or more, at most the last day of year 49", "months: 0 to 300"
    private static void laterTakesItsDaysAndMonths() {
        FeeDocket docket = new FeeDocket();
        Check.same("later(0, 0)", docket.later(0, 0), 0);
        Check.same("later(0, 1)", docket.later(0, 1), 31);
        Check.same("later(0, 299)", docket.date(docket.later(0, 299)), 241201);
        Check.same("later(0, 300)", docket.date(docket.later(0, 300)), 250101);
        Check.same("later(18262, 0)", docket.later(18262, 0), 18262);
        Check.same("later(18262, 2)", docket.date(docket.later(18262, 2)), 500228);
        Check.same("later(18262, 299)", docket.date(docket.later(18262, 299)), 741130);
        Check.same("later(18262, 300)", docket.date(docket.later(18262, 300)), 741231);
    }

    // "Throws IllegalArgumentException if day or months is out of range"
    private static void laterRefusesOtherDaysAndMonths() {
        for (int day : numbers(-1, 18263)) {
            refused("later(" + day + ", 0)", docket -> docket.later(day, 0));
            refused("later(" + day + ", 300)", docket -> docket.later(day, 300));
        }
        for (int months : numbers(-1, 301)) {
            refused("later(0, " + months + ")", docket -> docket.later(0, months));
            refused("later(18262, " + months + ")", docket -> docket.later(18262, months));
        }
    }

    // Promise 5: "day: 0 or more, at most the last day of year 78"
    private static void putOffTakesItsDays() {
        FeeDocket docket = new FeeDocket();
        Check.same("putOff(0)", docket.putOff(0), 0);
        Check.same("putOff(1)", docket.putOff(1), 1);
        Check.same("the day ahead of the last", docket.putOff(28853), 28854);
        Check.same("putOff(28854)", docket.putOff(28854), 28854);
        docket.holiday(1, 1);
        Check.same("day 0 is a holiday", docket.putOff(0), 1);
    }

    private static void putOffGoesOnBehindYear78() {
        FeeDocket docket = new FeeDocket();
        docket.holiday(12, 31);
        Check.same("the last day of year 78 is a holiday", docket.putOff(28854), 28855);
        for (int day = 1; day <= 4; day++) {
            docket.holiday(1, day);
        }
        Check.same("and the days up to the weekend", docket.putOff(28854), 28861);
        docket.holiday(1, 7);
        Check.same("and the day behind it", docket.putOff(28854), 28862);
        Check.same("from the weekend ahead of it", docket.putOff(28852), 28862);
    }

    // "Throws IllegalArgumentException if day is out of range"
    private static void putOffRefusesOtherDays() {
        for (int day : numbers(-1, 28855)) {
            refused("putOff(" + day + ")", docket -> docket.putOff(day));
        }
        refused("putOff(29219)", docket -> docket.putOff(29219));
    }

    // Promise 6: "month: 1 to 12", "day: 1 to 31, at most what the month has in a year of 366 days"
    private static void holidayTakesEveryDayOfAYear() {
        for (int number = 0; number < 366; number++) {
            FeeDocket docket = new FeeDocket();
            int date = Model.DATES[number];
            Check.same("the holiday " + date, docket.holiday(date / 100, date % 100), 1);
            int working = number % 7 == 4 ? number + 3 : number % 7 == 5 ? number + 2 : number + 1;
            Check.same("it does not work", docket.putOff(number), working);
            Check.same("taken away", docket.holiday(date / 100, date % 100), 0);
            Check.same("it works", docket.putOff(number), number % 7 < 5 ? number : number - number % 7 + 7);
        }
    }

    // "Throws IllegalArgumentException if month or day is out of range"
    private static void holidayRefusesOtherDays() {
        for (int number : numbers(-1, 32)) {
            refused("holiday(1, " + number + ")", docket -> docket.holiday(1, number));
        }
        for (int month : numbers(0, 13)) {
            refused("holiday(" + month + ", 1)", docket -> docket.holiday(month, 1));
        }
        int[] lengths = {31, 29, 31, 30, 31, 30, 31, 31, 30, 31, 30, 31};
        for (int index = 0; index < 12; index++) {
            int month = index + 1;
            int behind = lengths[index] + 1;
            Check.refused("day 0 of month " + month, Check.ARGUMENT, FeeDocket::new, docket -> docket.holiday(month, 0));
            Check.refused("a day behind month " + month, Check.ARGUMENT, FeeDocket::new,
                docket -> docket.holiday(month, behind));
        }
    }

    // "Makes a day a holiday, or takes it away, if it is one." "Returns the number of holidays then."
    private static void holidayComesAndGoes() {
        for (int gone = 1; gone <= 6; gone++) {
            FeeDocket docket = Dockets.withSixHolidays();
            int day = gone - 1;
            Check.same("holiday " + gone + " goes", docket.holiday(1, gone), 5);
            Check.same("value(4)", docket.value(4), 5);
            Check.same("it works, if it is no weekend", docket.putOff(day), day == 5 ? 7 : day);
            Check.same("those behind it do not", docket.putOff(gone), 7);
            Check.same("it comes again", docket.holiday(1, gone), 6);
            Check.same("it does not work", docket.putOff(day), 7);
        }
        FeeDocket docket = Dockets.withSixHolidays();
        for (int left = 5; left >= 0; left--) {
            Check.same("they go", docket.holiday(1, left + 1), left);
            Check.same("the days behind work", docket.putOff(left), left == 5 ? 7 : left);
            Check.same("those ahead do not", docket.putOff(0), left == 5 ? 7 : left);
        }
        Check.same("none is left", docket.value(4), 0);
    }

    // "Throws IllegalStateException if there are ... 6 other holidays"
    private static void sixHolidaysAndNoSeventh() {
        Check.refused("a seventh", Check.STATE, Dockets::withSixHolidays, docket -> docket.holiday(1, 7));
        Check.refused("a seventh in February", Check.STATE, Dockets::withSixHolidays, docket -> docket.holiday(2, 29));
        Check.refused("a seventh of another month", Check.STATE, Dockets::withSixHolidays, docket -> docket.holiday(7, 1));
        Check.refused("no day of the calendar", Check.ARGUMENT, Dockets::withSixHolidays, docket -> docket.holiday(2, 30));
        FeeDocket docket = Dockets.withSixHolidays();
        Check.same("one of the six goes", docket.holiday(1, 6), 5);
        Check.same("another one comes", docket.holiday(1, 8), 6);
        Check.badState("a seventh", () -> docket.holiday(1, 6));
        Check.same("the last one goes", docket.holiday(1, 8), 5);
    }

    // "Throws IllegalStateException if there are rights"
    private static void holidayIsRefusedWithRights() {
        Check.refused("with a right", Check.STATE, () -> Dockets.withRights(true), docket -> docket.holiday(1, 1));
        Check.refused("with ten", Check.STATE, Dockets::withTenRights, docket -> docket.holiday(1, 1));
        refusedWith("a holiday that is there", Check.STATE, docket -> docket.holiday(1, 31));
        refusedWith("another holiday", Check.STATE, docket -> docket.holiday(12, 31));
        FeeDocket undone = Dockets.withRights(false);
        undone.undo();
        Check.same("the right undone", undone.holiday(1, 1), 1);
        FeeDocket emptied = Dockets.withRights(false);
        emptied.parse();
        Check.same("the rights gone by an empty text", emptied.holiday(1, 1), 1);
        FeeDocket old = Dockets.paidUpTo(19);
        Dockets.passTo(old, old.right(0, 8) + 1);
        Check.badState("a right at its end is a right", () -> old.holiday(1, 1));
    }

    // "Undoable."
    private static void holidayIsUndoable() {
        FeeDocket docket = Dockets.withSixHolidays();
        docket.holiday(1, 1);
        Check.same("undo() of one that went", docket.undo(), 3);
        Check.same("six again", docket.value(4), 6);
        Check.same("it does not work", docket.putOff(0), 7);
        Check.same("undo() of one that came", docket.undo(), 2);
        Check.same("five", docket.value(4), 5);
        Check.same("the weekend's one", docket.putOff(0), 7);
        docket.undo();
        Check.same("four: day 4 works", docket.putOff(0), 4);
    }

    /** These two and the numbers at the ends of int. */
    private static int[] numbers(int least, int greatest) {
        return new int[] {least, greatest, FAR[0], FAR[1], FAR[2], FAR[3]};
    }

    private static void refused(String call, Consumer<FeeDocket> body) {
        refusedWith(call, Check.ARGUMENT, body);
    }

    private static void refusedWith(String call, String exception, Consumer<FeeDocket> body) {
        Check.refused(call, exception, Dockets::busy, body);
    }
}
