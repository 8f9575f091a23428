import java.util.function.Consumer;

/** Promises 24 to 26: the text and its rights, empty and full. */
public final class EdgesTextTest {
    private static final String FULL = "49-12-31s;".repeat(10);

    public static void main(String[] args) {
        appendTakesBytes0To127();
        appendRefusesOtherBytes();
        appendTakes100Bytes();
        appendRefusesByte101();
        appendedBytesAreKept();
        clearTextTellsTheLength();
        clearTextLeavesTheRest();
        parseOfNoRights();
        parseOfOneAndTenRights();
        parseTellsTheErrorsPlace();
        parseLeavesAllWithAnError();
        parseMakesTodayTheLatestFiling();
        parseMakesTodayEarlierOrLater();
        parseWithoutRightsLeavesToday();
        parseTakesAwayPaymentsUsersAndAccounts();
        parseLeavesFeesAndHolidays();
        parseLapsesBehindTheFirstGrace();
        parseLapsesBehindThePutOffGrace();
        parseOfRightsAtTheirEnd();
        parseLeavesTheText();
        parseIsUndoable();
        parsedRightsGoOn();
        Check.done("EdgesTextTest");
    }

    // Promise 24: "value: the byte, 0 to 127"
    private static void appendTakesBytes0To127() {
        FeeDocket low = new FeeDocket();
        for (int value = 0; value < 64; value++) {
            Check.same("append(" + value + ")", low.append(value), value + 1);
        }
        FeeDocket high = new FeeDocket();
        for (int value = 127; value >= 64; value--) {
            Check.same("append(" + value + ")", high.append(value), 128 - value);
        }
    }

    // "Throws IllegalArgumentException if value is out of range"
    private static void appendRefusesOtherBytes() {
        for (int value : new int[] {-1, 128, 255, 256, 48 - 256, 48 + 256, Integer.MIN_VALUE, Integer.MAX_VALUE}) {
            busyRefuses("append(" + value + ")", Check.ARGUMENT, docket -> docket.append(value));
            Check.refused("append(" + value + ") of an empty text", Check.ARGUMENT, FeeDocket::new,
                docket -> docket.append(value));
            Check.refused("append(" + value + ") of a full text", Check.ARGUMENT, () -> Dockets.withText(FULL),
                docket -> docket.append(value));
        }
    }

    // "Returns the new length of the text."
    private static void appendTakes100Bytes() {
        FeeDocket docket = new FeeDocket();
        for (int length = 1; length <= 100; length++) {
            Check.same("byte " + length, docket.append('1'), length);
        }
        Check.same("all of them", docket.clearText(), 100);
    }

    // "Throws IllegalStateException if the text has 100 bytes"
    private static void appendRefusesByte101() {
        for (int value : new int[] {0, 48, 127}) {
            Check.refused("byte 101", Check.STATE, () -> Dockets.withText(FULL), docket -> docket.append(value));
        }
        Check.same("byte 100", Dockets.withText(FULL.substring(0, 99)).append(';'), 100);
        FeeDocket emptied = Dockets.withText(FULL);
        emptied.clearText();
        Check.same("byte 1 of the emptied text", emptied.append('1'), 1);
        Check.same("the byte counts", emptied.parse(), -11);
    }

    private static void appendedBytesAreKept() {
        FeeDocket docket = new FeeDocket();
        docket.append('1');
        docket.append('-');
        docket.append('2');
        docket.append('-');
        docket.append('3');
        docket.append('s');
        docket.append(';');
        Check.same("parse()", docket.parse(), 1);
        Check.same("the filing", docket.date(docket.right(0, 0)), 10203);
        Check.same("small", docket.right(0, 1), 1);
    }

    // Promise 25: "Returns the length that it had."
    private static void clearTextTellsTheLength() {
        FeeDocket docket = new FeeDocket();
        Check.same("an empty text", docket.clearText(), 0);
        docket.append('1');
        Check.same("one byte", docket.clearText(), 1);
        Check.same("empty again", docket.clearText(), 0);
        Dockets.write(docket, FULL);
        Check.same("a full text", docket.clearText(), 100);
        Check.same("empty again", docket.clearText(), 0);
        Check.same("parse()", docket.parse(), 0);
    }

    private static void clearTextLeavesTheRest() {
        FeeDocket docket = Dockets.busy();
        docket.clearText();
        Dockets.write(docket, "1-2-3s;");
        Check.same("the docket with the text written again", Picture.of(docket), Picture.of(Dockets.busy()));
    }

    // Promise 26: "Returns the number of rights"
    private static void parseOfNoRights() {
        FeeDocket docket = new FeeDocket();
        Check.same("a new object", docket.parse(), 0);
        FeeDocket ten = Dockets.withTenRights();
        Check.same("the empty text", ten.parse(), 0);
        Check.same("no rights", ten.value(1), 0);
        Check.badIndex("right 0", () -> ten.right(0, 0));
        Check.same("nextDue()", ten.nextDue(), FeeDocket.NONE);
    }

    private static void parseOfOneAndTenRights() {
        FeeDocket docket = Dockets.withText("0-1-1;");
        Check.same("one", docket.parse(), 1);
        Check.same("value(1)", docket.value(1), 1);
        FeeDocket ten = Dockets.withText(FULL);
        Check.same("ten in 100 bytes", ten.parse(), 10);
        Check.same("value(1)", ten.value(1), 10);
        for (int right = 0; right < 10; right++) {
            Check.same("filed", ten.right(right, 0), 18262);
            Check.same("small", ten.right(right, 1), 1);
        }
        Check.badState("an eleventh", () -> ten.file(false));
        FeeDocket mixed = Dockets.withText("9-9-9;10-10-10s;0-1-1;");
        Check.same("three", mixed.parse(), 3);
        int[] filed = {90909, 101010, 101};
        for (int right = 0; right < 3; right++) {
            Check.same("filed", mixed.date(mixed.right(right, 0)), filed[right]);
            Check.same("small", mixed.right(right, 1), right == 1 ? 1 : 0);
        }
    }

    // "-10 minus the syntax error position if there is a syntax error"
    private static void parseTellsTheErrorsPlace() {
        Check.same("the first byte", Dockets.withText("-").parse(), -10);
        Check.same("the second byte", Dockets.withText("1;").parse(), -11);
        Check.same("the end of a byte", Dockets.withText("1").parse(), -11);
        Check.same("byte 98", Dockets.withText(FULL.substring(0, 98) + "-").parse(), -108);
        Check.same("byte 99, the last one", Dockets.withText(FULL.substring(0, 99) + "-").parse(), -109);
        Check.same("the end of 99 bytes", Dockets.withText(FULL.substring(0, 99)).parse(), -109);
        Check.same("100 digits", Dockets.withText("1".repeat(100)).parse(), -12);
        Check.same("100 bytes 0", Dockets.withText("\0".repeat(100)).parse(), -10);
        FeeDocket docket = Dockets.withText("1-1-1;x");
        Check.same("an error", docket.parse(), -16);
        docket.clearText();
        Check.same("it is gone with its text", docket.parse(), 0);
        Dockets.write(docket, "1-1-1;");
        Check.same("and with another one", docket.parse(), 1);
    }

    // "(then nothing changes)"
    private static void parseLeavesAllWithAnError() {
        for (String wrong : new String[] {"x", "1", "50-1-1;", "1-13-1;", "1-1-32;", "1-1-1;x", "1-1-1;1-1-1;1-2-29;"}) {
            FeeDocket docket = Dockets.busy();
            docket.clearText();
            Dockets.write(docket, wrong);
            Check.same("an error in " + wrong, docket.parse() <= -10, true);
            FeeDocket other = Dockets.busy();
            other.clearText();
            Dockets.write(other, wrong);
            Check.same("the docket behind " + wrong, Picture.of(docket), Picture.of(other));
        }
        FeeDocket eleven = Dockets.withTenRights();
        Dockets.write(eleven, "1-1-1;".repeat(10) + "1");
        Check.same("an eleventh", eleven.parse(), -70);
        Check.same("today stays", eleven.value(0), 0);
        Check.same("the rights stay", eleven.right(9, 0), 0);
        Check.same("undo() of the last filing", eleven.undo(), 3);
    }

    // "today becomes the latest day of filing"
    private static void parseMakesTodayTheLatestFiling() {
        String[] texts = {"1-1-1;2-2-2;3-3-3;", "3-3-3;2-2-2;1-1-1;", "1-1-1;3-3-3;2-2-2;", "3-3-3;3-3-3;"};
        for (String text : texts) {
            Check.same("today of " + text, today(text), 30303);
        }
        Check.same("the first day", today("0-1-1;"), 101);
        Check.same("the last day", today("0-1-1;49-12-31;"), 491231);
    }

    private static void parseMakesTodayEarlierOrLater() {
        FeeDocket docket = Dockets.on(2000);
        Dockets.write(docket, "1-1-1;");
        docket.parse();
        Check.same("earlier", docket.value(0), 366);
        docket.clearText();
        Dockets.write(docket, "0-1-1;");
        docket.parse();
        Check.same("day 0", docket.value(0), 0);
        docket.clearText();
        Dockets.write(docket, "49-12-31;");
        docket.parse();
        Check.same("later", docket.value(0), 18262);
        FeeDocket late = Dockets.on(Dockets.END_OF_YEAR_75);
        Dockets.write(late, "0-1-1;");
        late.parse();
        Check.same("from the end of year 75", late.value(0), 0);
        Check.same("a right may be filed again", late.file(true), 1);
    }

    // "(it stays without rights)"
    private static void parseWithoutRightsLeavesToday() {
        for (int day : new int[] {0, 1, 18263, Dockets.END_OF_YEAR_75}) {
            FeeDocket docket = Dockets.on(day);
            Check.same("no rights", docket.parse(), 0);
            Check.same("today", docket.value(0), day);
        }
    }

    // "without payments, users and accounts"
    private static void parseTakesAwayPaymentsUsersAndAccounts() {
        FeeDocket docket = Dockets.busy();
        docket.clearText();
        Dockets.write(docket, "0-1-1;0-1-11s;0-7-19;0-10-27;");
        Check.same("as many rights", docket.parse(), 4);
        for (int right = 0; right < 4; right++) {
            Check.same("no fees are paid", docket.right(right, 2), 0);
            Check.same("the first year", docket.right(right, 3), 1);
            Check.same("no gaps", docket.right(right, 9), 0);
            Check.same("no users", docket.right(right, 10), 0);
            Check.same("no protected users", docket.right(right, 11), 0);
            Check.same("nothing has been paid", docket.right(right, 12), 0);
            Check.same("user(" + right + ", 3)", docket.user(right, 3), 0);
            Check.same("share", docket.share(right), 1.0);
        }
        for (int what = 5; what <= 7; what++) {
            Check.same("value(" + what + ")", docket.value(what), 0);
        }
        Check.same("right 0, 67 days ahead of its due day", docket.payAll(), 122 + 61);
        Dockets.passTo(docket, 601);
        for (int day : new int[] {0, 367, 368, 500, 600, 601}) {
            Check.same("the former gap, day " + day, docket.stood(0, day), true);
            Check.same("the former payment, day " + day, docket.covered(0, day), true);
        }
        Check.same("share", docket.share(0), 1.0);
        FeeDocket emptied = Dockets.busy();
        emptied.clearText();
        emptied.parse();
        for (int what = 5; what <= 7; what++) {
            Check.same("value(" + what + ") without rights", emptied.value(what), 0);
        }
    }

    // "Fees and holidays stay."
    private static void parseLeavesFeesAndHolidays() {
        FeeDocket docket = Dockets.busy();
        docket.clearText();
        Dockets.write(docket, "0-1-1;0-1-31;");
        docket.parse();
        Check.same("holidays", docket.value(4), 2);
        int[] fees = {101, 21, 33, 250};
        for (int i = 0; i < 4; i++) {
            Check.same("value(" + (8 + i) + ")", docket.value(8 + i), fees[i]);
        }
        Check.same("due(1) on a holiday", docket.due(0, 1, false), 367);
        Check.same("due(1) on the other one", docket.due(1, 1, false), 399);
        Check.same("the fee", docket.right(0, 6), 122);
        FeeDocket six = Dockets.withSixHolidays();
        six.parse();
        Check.same("six holidays", six.value(4), 6);
        Check.badState("a seventh", () -> six.holiday(1, 7));
    }

    // "Rights whose first grace is over then are lapsed."
    private static void parseLapsesBehindTheFirstGrace() {
        FeeDocket on = Dockets.withText("0-1-1;1-7-1;");
        on.parse();
        Check.same("today is grace(1)", on.value(0), on.due(0, 1, true));
        Check.same("not lapsed", on.right(0, 7), 0);
        Check.same("it stands", on.value(2), 2);
        Check.same("it can be paid", on.pay(0), 180);
        FeeDocket behind = Dockets.withText("0-1-1;1-7-2;");
        behind.parse();
        Check.same("today is behind grace(1)", behind.value(0), behind.due(0, 1, true) + 1);
        Check.same("lapsed", behind.right(0, 7), 1);
        Check.same("value(3)", behind.value(3), 1);
        Check.same("it stood up to due(1)", behind.stood(0, 366), true);
        Check.same("not behind it", behind.stood(0, 367), false);
        Check.same("it can be revived", behind.revive(0), 480);
        FeeDocket all = Dockets.withText("0-1-1;0-1-1s;49-12-31;0-1-1;");
        all.parse();
        Check.same("three are lapsed", all.value(3), 3);
        Check.same("one stands", all.value(2), 1);
    }

    // grace(1) of 5 January of year 0 is put off from day 551 to day 553, which is 7 July of year 1.
    private static void parseLapsesBehindThePutOffGrace() {
        FeeDocket on = Dockets.withText("0-1-5;1-7-7;");
        on.parse();
        Check.same("today", on.value(0), 553);
        Check.same("not lapsed", on.right(0, 7), 0);
        FeeDocket behind = Dockets.withText("0-1-5;1-7-8;");
        behind.parse();
        Check.same("lapsed", behind.right(0, 7), 1);
    }

    private static void parseOfRightsAtTheirEnd() {
        FeeDocket docket = Dockets.withText("0-1-1;20-1-1;");
        docket.parse();
        Check.same("the day behind its last day", docket.value(0), docket.right(0, 8) + 1);
        Check.same("lapsed", docket.right(0, 7), 1);
        Check.badState("no user begins", () -> docket.use(0, 1));
        Check.badState("it is not revived", () -> docket.revive(0));
        Check.same("share", docket.share(0), 367.0 / 7305.0);
        FeeDocket last = Dockets.withText("0-1-1;19-12-31;");
        last.parse();
        Check.same("on its last day a user begins", last.use(0, 1), 1);
    }

    // "The text stays as it is."
    private static void parseLeavesTheText() {
        FeeDocket docket = Dockets.withText("1-2-3;");
        docket.parse();
        Check.same("again", docket.parse(), 1);
        Dockets.write(docket, "4-5-6;");
        Check.same("with another right", docket.parse(), 2);
        docket.append('x');
        Check.same("with an error", docket.parse(), -22);
        Check.same("again", docket.parse(), -22);
        Check.same("its length", docket.clearText(), 13);
        FeeDocket full = Dockets.withText(FULL);
        full.parse();
        Check.same("a full text", full.clearText(), 100);
    }

    // "Undoable, if there is no syntax error."
    private static void parseIsUndoable() {
        FeeDocket docket = Dockets.withTenRights();
        docket.pass(5);
        Dockets.write(docket, "1-2-3;");
        docket.parse();
        Check.same("undo()", docket.undo(), 3);
        Check.same("ten rights", docket.value(1), 10);
        Check.same("today", docket.value(0), 5);
        Check.same("the text stays", docket.parse(), 1);
        docket.append('x');
        Check.same("an error", docket.parse(), -16);
        Check.same("undo() of the one before it", docket.undo(), 3);
        Check.same("ten rights", docket.value(1), 10);
    }

    private static void parsedRightsGoOn() {
        FeeDocket docket = Dockets.withText("0-3-1;0-3-1s;");
        docket.parse();
        Check.same("file", docket.file(false), 2);
        Dockets.passTo(docket, docket.due(0, 1, false));
        Check.same("payAll()", docket.payAll(), 120 + 60 + 120);
        Check.same("pass", docket.pass(docket.due(0, 2, true) - docket.value(0) + 1), 3);
    }

    private static int today(String text) {
        FeeDocket docket = Dockets.withText(text);
        docket.parse();
        return docket.date(docket.value(0));
    }

    private static void busyRefuses(String call, String exception, Consumer<FeeDocket> body) {
        Check.refused(call, exception, Dockets::busy, body);
    }
}
