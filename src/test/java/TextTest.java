/** Promises 24 to 26: the text and the rights that are read from it. */
public final class TextTest {
    private static final String TEN = "0-1-1;0-1-1;0-1-1;0-1-1;0-1-1;0-1-1;0-1-1;0-1-1;0-1-1;0-1-1;";

    public static void main(String[] args) {
        textGrowsAndEmpties();
        rightsAreRead();
        readingBeginsAnew();
        formerGapsDoNotStay();
        anErrorDoesNotStay();
        errorsHaveTheirPlaces();
        wrongNumbersHaveTheirPlaces();
        rightsEndAtTen();
        everyByteHasItsPlace();
        Check.done("TextTest");
    }

    // Promises 24 and 25
    private static void textGrowsAndEmpties() {
        FeeDocket docket = new FeeDocket();
        int[] wrong = {-1, 128, Integer.MIN_VALUE, Integer.MAX_VALUE};
        for (int value : wrong) {
            Check.badArgument("append(" + value + ")", () -> docket.append(value));
        }
        for (int i = 1; i <= 100; i++) {
            Check.same("append", docket.append(i == 1 ? 0 : 127), i);
        }
        Check.badState("a byte more", () -> docket.append(48));
        Check.badArgument("the argument counts first", () -> docket.append(128));
        Check.changesNothing("a byte more", docket, () -> docket.append(48));
        Check.badState("no state is saved", docket::undo);
        Check.same("clearText()", docket.clearText(), 100);
        Check.same("clearText()", docket.clearText(), 0);
        Check.same("from the start", docket.append(48), 1);
    }

    // Promise 26
    private static void rightsAreRead() {
        FeeDocket docket = Dockets.withText("00-02-29;49-12-31s;5-6-7;");
        Check.same("parse()", docket.parse(), 3);
        Check.same("today", docket.value(0), 18262);
        int[] days = {59, 18262, docket.day(5, 6, 7)};
        for (int i = 0; i < 3; i++) {
            Check.same("filed", docket.right(i, 0), days[i]);
            Check.same("small", docket.right(i, 1), i == 1 ? 1 : 0);
            Check.same("lapsed", docket.right(i, 7), i == 1 ? 0 : 1);
            Check.same("last day", docket.right(i, 8), docket.later(days[i], 240) - 1);
        }
        Check.same("the text stays", docket.parse(), 3);
        Check.same("its length", docket.clearText(), 25);
        FeeDocket grace = Dockets.withText("0-1-1;1-7-1;");
        grace.parse();
        Check.same("on the last day of the grace", grace.value(0), 547);
        Check.same("not lapsed", grace.right(0, 7), 0);
        FeeDocket behind = Dockets.withText("0-1-1;1-7-2;");
        behind.parse();
        Check.same("lapsed behind it", behind.right(0, 7), 1);
        Check.same("it can be revived", behind.revive(0), 480);
    }

    private static void readingBeginsAnew() {
        FeeDocket docket = new FeeDocket();
        docket.holiday(7, 1);
        docket.setFees(10, 1, 20, 30);
        docket.file(true);
        docket.file(true);
        Dockets.passTo(docket, 600);
        docket.use(0, 1);
        docket.pass(1);
        docket.revive(0);
        Dockets.write(docket, "1-1-1;");
        Check.same("parse()", docket.parse(), 1);
        int[] due = {366, 1, 1, 0, 1, 0, 0, 0, 10, 1, 20, 30};
        for (int what = 0; what < due.length; what++) {
            Check.same("value(" + what + ")", docket.value(what), due[what]);
        }
        int[] right = {366, 0, 0, 1, 731, 913, 11, 0, docket.day(20, 12, 31), 0, 0, 0, 0};
        for (int what = 0; what < right.length; what++) {
            Check.same("right(0, " + what + ")", docket.right(0, what), right[what]);
        }
        Check.same("no users", docket.user(0, 1), 0);
        docket.undo();
        Check.same("undo", docket.value(1), 2);
        Check.same("undo", docket.right(0, 11), 1);
        docket.clearText();
        int today = docket.value(0);
        Check.same("no rights", docket.parse(), 0);
        Check.same("today stays", docket.value(0), today);
        Check.same("no rights", docket.value(1), 0);
        Check.same("no accounts", docket.value(5), 0);
        Check.same("holidays stay", docket.value(4), 1);
    }

    // A right that was revived gives its number to one that pays in time.
    private static void formerGapsDoNotStay() {
        FeeDocket docket = Dockets.withRights(false);
        Dockets.passTo(docket, 600);
        docket.revive(0);
        Dockets.write(docket, "0-1-1;");
        docket.parse();
        Check.same("today goes back", docket.value(0), 0);
        Dockets.passTo(docket, 366);
        docket.pay(0);
        Dockets.passTo(docket, 700);
        Check.same("it stood", docket.stood(0, 500), true);
        Check.same("covered", docket.covered(0, 500), true);
        Check.same("share", docket.share(0), 1.0);
    }

    private static void anErrorDoesNotStay() {
        FeeDocket docket = Dockets.withText("x");
        Check.same("an error", docket.parse(), -10);
        Check.same("again", docket.parse(), -10);
        docket.clearText();
        Check.same("the empty text", docket.parse(), 0);
        Dockets.write(docket, "1-1-1");
        Check.same("another error", docket.parse(), -15);
        docket.append(';');
        Check.same("a right", docket.parse(), 1);
        docket.append('-');
        Check.same("an error", docket.parse(), -16);
        Check.same("the right stays", docket.value(1), 1);
    }

    private static void errorsHaveTheirPlaces() {
        error("-", 0);
        error(";", 0);
        error("s", 0);
        error("1", 1);
        error("12", 2);
        error("12-", 3);
        error("12-1", 4);
        error("12-12-", 6);
        error("12-12-1", 7);
        error("12-12-12", 8);
        error("12-12-12s", 9);
        error("12-12-12ss", 9);
        error("12-12-12s1", 9);
        error("12-12-12;x", 9);
        error("12-12-12; ", 9);
        error(" 12-12-12;", 0);
        error("1;", 1);
        error("1--", 2);
        error("1-1;", 3);
        error("1-1s;", 3);
        error("1-1-;", 4);
        error("1-1-s;", 4);
        error("1-1-1-", 5);
        error("1-1-1S;", 5);
        error("1-1-1;s", 6);
        error("123-1-1;", 2);
        error("1-123-1;", 4);
        error("1-1-123;", 6);
        error("001-1-1;", 2);
        error("1-1-1;1-1-1;1", 13);
    }

    private static void wrongNumbersHaveTheirPlaces() {
        error("50", 0);
        error("50-", 0);
        error("50x", 0);
        error("99;", 0);
        error("500", 2);
        error("1-0", 2);
        error("1-00-", 2);
        error("1-13", 2);
        error("1-13x", 2);
        error("1-130", 4);
        error("1-1-0", 4);
        error("1-1-00;", 4);
        error("1-1-32", 4);
        error("1-1-32s", 4);
        error("1-1-32x", 4);
        error("1-1-320", 6);
        error("1-2-29;", 4);
        error("0-2-30;", 4);
        error("4-4-31;", 4);
        error("1-1-1;1-1-1;60-", 12);
        FeeDocket docket = Dockets.withText("48-2-29;");
        Check.same("a long year", docket.parse(), 1);
    }

    private static void error(String text, int position) {
        FeeDocket docket = Dockets.withText(text);
        docket.file(true);
        long before = docket.digest();
        Check.same("parse() of " + text, docket.parse(), -10 - position);
        Check.same("nothing changes", docket.digest(), before);
        Check.same("the saved state is that of file", docket.undo(), 0);
    }

    private static void rightsEndAtTen() {
        Check.same("ten", Dockets.withText(TEN).parse(), 10);
        Check.same("the eleventh's first digit", Dockets.withText(TEN + "1").parse(), -70);
        Check.same("another byte", Dockets.withText(TEN + "-").parse(), -70);
        Check.same("eleven", Dockets.withText(TEN + "0-1-1;").parse(), -70);
        Check.same("the longest", Dockets.withText("49-12-31s;".repeat(10)).parse(), 10);
        FeeDocket ten = Dockets.withText("0-1-1;");
        for (int i = 0; i < 10; i++) {
            ten.file(false);
        }
        Check.same("the former rights do not count", ten.parse(), 1);
    }

    private static void everyByteHasItsPlace() {
        String right = "12-11-10s;";
        for (int place = 0; place < right.length(); place++) {
            for (int value = 0; value < 128; value++) {
                FeeDocket docket = Dockets.withText(right.substring(0, place));
                docket.append(value);
                Dockets.write(docket, right.substring(place + 1));
                String text = right.substring(0, place) + (char) value + right.substring(place + 1);
                Check.same("parse() of " + text, docket.parse(), Model.readText(text, null));
            }
        }
    }
}
