/** "Terms", the text: a test for each sentence, with the boundaries that it names. */
public final class TermsTextTest {
    public static void main(String[] args) {
        textHasAtMost100Bytes();
        thereMayBeNoRights();
        rightsEndWithASemicolon();
        numbersHaveOneOrTwoDigits();
        leadingZerosCount();
        signsStandBetweenTheNumbers();
        smallIsASmallS();
        thereAreNoSpaces();
        digitsAre48To57();
        firstWrongByteIsTheError();
        endOfTheTextIsTheError();
        thirdDigitIsTheError();
        eleventhRightIsTheError();
        yearAbove49IsTheError();
        monthOutside1To12IsTheError();
        dayOutsideItsMonthIsTheError();
        wrongNumbersAreFoundBehindTheirDigits();
        wrongNumbersWinOverTheByteBehindThem();
        errorsOfLaterRightsAreCountedFromTheStart();
        Check.done("TermsTextTest");
    }

    // "The text has at most 100 bytes."
    private static void textHasAtMost100Bytes() {
        String full = "49-12-31s;".repeat(10);
        FeeDocket docket = Dockets.withText(full);
        Check.same("ten rights in 100 bytes", docket.parse(), 10);
        Check.badState("byte 101", () -> docket.append('0'));
        Check.same("the length", docket.clearText(), 100);
        Check.same("the error at byte 99", Dockets.withText(full.substring(0, 99) + "x").parse(), -10 - 99);
        Check.same("99 bytes, too short", Dockets.withText(full.substring(0, 99)).parse(), -10 - 99);
    }

    // "there may be no rights"
    private static void thereMayBeNoRights() {
        FeeDocket docket = Dockets.withRights(false, true);
        docket.pass(5);
        Check.same("the empty text", docket.parse(), 0);
        Check.same("no rights", docket.value(1), 0);
        Check.same("today stays", docket.value(0), 5);
    }

    // "a sequence of rights, each terminated by a semicolon"
    private static void rightsEndWithASemicolon() {
        answer("1-2-3;", 1);
        answer("1-2-3;1-2-3;", 2);
        answer("1-2-3", -10 - 5);
        answer("1-2-3;1-2-3", -10 - 11);
        answer("1-2-3;;", -10 - 6);
        answer(";", -10);
        answer("1-2-3:", -10 - 5);
    }

    // "the year (one or two digits), "-", the month (one or two digits), "-", the day of the month (one or two digits)"
    private static void numbersHaveOneOrTwoDigits() {
        filed("1-2-3;", 10203, false);
        filed("1-2-13;", 10213, false);
        filed("1-12-3;", 11203, false);
        filed("1-12-13;", 11213, false);
        filed("11-2-3;", 110203, false);
        filed("11-12-13;", 111213, false);
        answer("-2-3;", -10);
        answer("1--3;", -10 - 2);
        answer("1-2-;", -10 - 4);
    }

    private static void leadingZerosCount() {
        filed("0-1-1;", 101, false);
        filed("00-01-01;", 101, false);
        filed("09-08-07s;", 90807, true);
        answer("000-1-1;", -10 - 2);
        answer("0-001-1;", -10 - 4);
        answer("0-1-001;", -10 - 6);
    }

    private static void signsStandBetweenTheNumbers() {
        for (String sign : new String[] {",", ".", "/", "+", "s", ";", "_"}) {
            answer("1" + sign + "2-3;", -10 - 1);
            answer("1-2" + sign + "3;", -10 - 3);
        }
        answer("1-2-3-", -10 - 5);
        answer("1-2-3-4;", -10 - 5);
    }

    // "and perhaps "s" if it is small"
    private static void smallIsASmallS() {
        filed("1-2-3;", 10203, false);
        filed("1-2-3s;", 10203, true);
        filed("1-2-13s;", 10213, true);
        for (String sign : new String[] {"S", "r", "t", "ss", "s1", "s-"}) {
            answer("1-2-3" + sign + ";", sign.charAt(0) == 's' ? -10 - 6 : -10 - 5);
        }
        answer("s", -10);
        answer("1s-2-3;", -10 - 1);
        answer("1-2s-3;", -10 - 3);
        answer("1-2-s;", -10 - 4);
    }

    // "There are no spaces"
    private static void thereAreNoSpaces() {
        String right = "1-2-3s;";
        for (int place = 0; place <= right.length(); place++) {
            answer(right.substring(0, place) + " " + right.substring(place), -10 - place);
        }
    }

    private static void digitsAre48To57() {
        for (int value = 0; value < 128; value++) {
            boolean isDigit = value >= 48 && value <= 57;
            FeeDocket docket = new FeeDocket();
            docket.append(value);
            Check.same("byte " + value + " alone", docket.parse(), isDigit ? -11 : -10);
            FeeDocket second = Dockets.withText("1");
            second.append(value);
            boolean stands = isDigit || value == '-';
            Check.same("byte " + value + " behind a digit", second.parse(), stands ? -12 : -11);
        }
        filed("19-10-20;", 191020, false);
        filed("0-9-9;", 909, false);
    }

    // "the index of the first byte that cannot stand where it stands"
    private static void firstWrongByteIsTheError() {
        answer("x1-2-3;", -10);
        answer("1x", -10 - 1);
        answer("1-x", -10 - 2);
        answer("1-2x", -10 - 3);
        answer("1-2-x", -10 - 4);
        answer("1-2-3x", -10 - 5);
        answer("1-2-3sx", -10 - 6);
        answer("1-2-3s;x", -10 - 7);
        answer("x-x-x", -10);
        answer("1-x-x", -10 - 2);
    }

    // "or the length of the text if the text ends too early"
    private static void endOfTheTextIsTheError() {
        String right = "12-11-10s;";
        for (int length = 1; length < right.length(); length++) {
            answer(right.substring(0, length), -10 - length);
            answer(right + right.substring(0, length), -20 - length);
        }
    }

    // "(a third digit ..., too)"
    private static void thirdDigitIsTheError() {
        answer("123", -10 - 2);
        answer("123-1-1;", -10 - 2);
        answer("490-1-1;", -10 - 2);
        answer("1-123", -10 - 4);
        answer("1-120-1;", -10 - 4);
        answer("1-1-123", -10 - 6);
        answer("1-1-311;", -10 - 6);
        answer("12-12-123", -10 - 8);
        answer("12-12-12s;12-12-123", -10 - 18);
    }

    // "(... the first digit of a right when there would be more than 10, too)"
    private static void eleventhRightIsTheError() {
        String ten = "1-2-3;".repeat(10);
        answer(ten, 10);
        answer(ten + "1", -10 - 60);
        answer(ten + "1-2-3;", -10 - 60);
        answer(ten + "99-2-3;", -10 - 60);
        answer(ten + ";", -10 - 60);
        answer("12-11-10;".repeat(10), 10);
        answer("12-11-10;".repeat(10) + "1", -10 - 90);
        answer("1-2-3;".repeat(9) + "1", -10 - 55);
        FeeDocket docket = Dockets.withTenRights();
        Dockets.write(docket, "1-2-3;");
        Check.same("the docket's ten rights do not count", docket.parse(), 1);
    }

    // "For a year above 49 ... it is the index of its first digit"
    private static void yearAbove49IsTheError() {
        filed("49-12-31;", 491231, false);
        filed("0-1-1;", 101, false);
        answer("50-1-1;", -10);
        answer("59-1-1;", -10);
        answer("99-1-1;", -10);
        answer("1-1-1;50-1-1;", -10 - 6);
        answer("5-1-1;", 1);
    }

    // "a month that is not 1 to 12"
    private static void monthOutside1To12IsTheError() {
        filed("1-1-1;", 10101, false);
        filed("1-12-1;", 11201, false);
        answer("1-0-1;", -10 - 2);
        answer("1-00-1;", -10 - 2);
        answer("1-13-1;", -10 - 2);
        answer("1-19-1;", -10 - 2);
        answer("1-99-1;", -10 - 2);
        answer("11-13-1;", -10 - 3);
    }

    // "and a day that the month does not have"
    private static void dayOutsideItsMonthIsTheError() {
        int[] lengths = {31, 28, 31, 30, 31, 30, 31, 31, 30, 31, 30, 31};
        for (int year = 0; year <= 49; year += 7) {
            for (int month = 1; month <= 12; month++) {
                int length = lengths[month - 1] + (month == 2 && year % 4 == 0 ? 1 : 0);
                String start = year + "-" + month + "-";
                filed(start + "1;", 10000 * year + 100 * month + 1, false);
                filed(start + length + ";", 10000 * year + 100 * month + length, false);
                answer(start + "0;", -10 - start.length());
                answer(start + "00;", -10 - start.length());
                answer(start + (length + 1) + ";", -10 - start.length());
                answer(start + "99s;", -10 - start.length());
            }
        }
        answer("48-2-29;", 1);
        answer("49-2-29;", -10 - 5);
        answer("48-2-30;", -10 - 5);
    }

    // "found when a byte that is no digit, whichever it is, or the end of the text, follows it"
    private static void wrongNumbersAreFoundBehindTheirDigits() {
        // The end of the text.
        answer("50", -10);
        answer("1-0", -10 - 2);
        answer("1-13", -10 - 2);
        answer("1-1-0", -10 - 4);
        answer("1-1-32", -10 - 4);
        answer("1-2-29", -10 - 4);
        // A digit: the number is not yet wrong.
        answer("500", -10 - 2);
        answer("1-130", -10 - 4);
        answer("1-1-320", -10 - 6);
        filed("1-01-01;", 10101, false);
    }

    private static void wrongNumbersWinOverTheByteBehindThem() {
        for (int value = 0; value < 128; value++) {
            if (value < 48 || value > 57) {
                String sign = String.valueOf((char) value);
                answer("50" + sign, -10);
                answer("1-13" + sign, -10 - 2);
                answer("1-0" + sign, -10 - 2);
                answer("1-1-32" + sign, -10 - 4);
                answer("1-1-0" + sign, -10 - 4);
            }
        }
    }

    private static void errorsOfLaterRightsAreCountedFromTheStart() {
        String nine = "12-11-10s;".repeat(9);
        answer(nine + "50-1-1;", -10 - 90);
        answer(nine + "1-13-1;", -10 - 92);
        answer(nine + "1-1-32;", -10 - 94);
        answer(nine + "1-1-1ss;", -10 - 96);
        answer(nine + "1-1-1;", 10);
    }

    private static void answer(String text, int due) {
        Check.same("parse() of '" + text + "'", Dockets.withText(text).parse(), due);
    }

    private static void filed(String text, int date, boolean small) {
        FeeDocket docket = Dockets.withText(text);
        Check.same("parse() of '" + text + "'", docket.parse(), 1);
        if (docket.value(1) == 1) {
            Check.same("the filing of '" + text + "'", docket.date(docket.right(0, 0)), date);
            Check.same("small of '" + text + "'", docket.right(0, 1), small ? 1 : 0);
            Check.same("today of '" + text + "'", docket.date(docket.value(0)), date);
        }
    }
}
