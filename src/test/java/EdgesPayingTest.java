import java.util.function.Consumer;

/** Promises 9, 10, 20, 21 and 22: paying, what is due first, what it costs and what lapses. */
public final class EdgesPayingTest {
    private static final int NONE = FeeDocket.NONE;

    public static void main(String[] args) {
        payTakesTheFirstAndTheLastRight();
        payTellsWhatIsPaid();
        payRefusesOtherRights();
        payRefusesLapsedRights();
        payRefusesWithoutAFee();
        payRefusesTooEarly();
        payIsUndoable();
        payAllOfNone();
        payAllOfTen();
        payAllLeavesWhatCannotBePaid();
        payAllPaysEachRightOnce();
        payAllIsUndoable();
        nextDueOfNone();
        nextDueOfOne();
        nextDueTakesTheLowestOfSeveral();
        nextDueComparesPutOffDays();
        nextDuePassesLapsedRightsBy();
        nextDuePassesPaidRightsBy();
        nextDueOfTen();
        costsTakes0To4000Days();
        costsRefusesOtherDays();
        costsTakesTheLastDay();
        costsOfSeveralYears();
        costsOfGraceAndLapse();
        costsWithoutAFee();
        costsLeavesTheDocket();
        lapsingTakes0To4000Days();
        lapsingRefusesOtherDays();
        lapsingCountsFromTomorrow();
        lapsingCountsEachRightOnce();
        lapsingForeseesPass();
        Check.done("EdgesPayingTest");
    }

    // Promise 9: "right: number of a right"
    private static void payTakesTheFirstAndTheLastRight() {
        FeeDocket docket = Dockets.withTenRights();
        docket.pass(300);
        Check.same("pay(9)", docket.pay(9), 120);
        Check.same("pay(0)", docket.pay(0), 120);
        for (int right = 0; right < 10; right++) {
            Check.same("fees paid for " + right, docket.right(right, 2), right == 0 || right == 9 ? 1 : 0);
        }
    }

    // "Pays the next unpaid fee of a right." "Returns what is paid."
    private static void payTellsWhatIsPaid() {
        FeeDocket docket = Dockets.withRights(false, true);
        docket.pass(366);
        Check.same("on the due day", docket.pay(0), 120);
        Check.same("right(0, 12)", docket.right(0, 12), 120);
        docket.pass(1);
        Check.same("small, behind it", docket.pay(1), 90);
        Check.same("right(1, 12)", docket.right(1, 12), 90);
        Check.same("value(5)", docket.value(5), 210);
        Check.same("value(6)", docket.value(6), 30);
        Check.same("value(7)", docket.value(7), 0);
        Check.same("no gap", docket.right(1, 9), 0);
        docket.setFees(0, 0, 100, 0);
        Dockets.passTo(docket, 800);
        Check.same("a fee of nothing", docket.pay(0), 0);
        Check.same("is paid", docket.right(0, 2), 2);
    }

    // "Throws IndexOutOfBoundsException if there is no such right"
    private static void payRefusesOtherRights() {
        for (int right : new int[] {-1, 4, 9, 10, Integer.MIN_VALUE, Integer.MAX_VALUE}) {
            busyRefuses("pay(" + right + ")", Check.INDEX, docket -> docket.pay(right));
        }
        Check.refused("pay(0) of none", Check.INDEX, FeeDocket::new, docket -> docket.pay(0));
        Check.refused("pay(10) of ten", Check.INDEX, Dockets::withTenRights, docket -> docket.pay(10));
    }

    // "Throws IllegalStateException if it is lapsed"
    private static void payRefusesLapsedRights() {
        busyRefuses("pay(1), lapsed", Check.STATE, docket -> docket.pay(1));
        for (int day : new int[] {548, 912, 913, 7304, 7305, 20000}) {
            Check.refused("pay(0) on day " + day, Check.STATE, () -> lapsedOn(day), docket -> docket.pay(0));
        }
        // In the time in which the fee for year 2 could be paid, the one for year 1 is still the next.
        FeeDocket docket = lapsedOn(731);
        Check.badState("on due(2)", () -> docket.pay(0));
        docket.revive(0);
        Check.same("revived", docket.pay(0), 140);
    }

    private static FeeDocket lapsedOn(int day) {
        FeeDocket docket = Dockets.withRights(false);
        Dockets.passTo(docket, day);
        return docket;
    }

    // "... no fee is left"
    private static void payRefusesWithoutAFee() {
        Check.refused("all are paid", Check.STATE, () -> Dockets.paidUpTo(19), docket -> docket.pay(0));
        Check.refused("all are paid, at the end", Check.STATE, () -> {
            FeeDocket docket = Dockets.paidUpTo(19);
            Dockets.passTo(docket, 7305);
            return docket;
        }, docket -> docket.pay(0));
        FeeDocket docket = Dockets.paidUpTo(18);
        Dockets.passTo(docket, docket.due(0, 19, false));
        Check.same("the last fee", docket.pay(0), 480);
    }

    // "... or it is too early"
    private static void payRefusesTooEarly() {
        Check.refused("on the day of filing", Check.STATE, () -> Dockets.withRights(false), docket -> docket.pay(0));
        Check.refused("91 days ahead", Check.STATE, () -> lapsedOn(275), docket -> docket.pay(0));
        Check.same("90 days ahead", lapsedOn(276).pay(0), 120);
        Check.refused("paid already today", Check.STATE, () -> Dockets.paidUpTo(1), docket -> docket.pay(0));
        Check.refused("91 days ahead of year 2", Check.STATE, () -> {
            FeeDocket docket = Dockets.paidUpTo(1);
            Dockets.passTo(docket, 731 - 91);
            return docket;
        }, docket -> docket.pay(0));
    }

    private static void payIsUndoable() {
        FeeDocket docket = lapsedOn(547);
        docket.pay(0);
        Check.same("undo()", docket.undo(), 2);
        Check.same("not paid", docket.right(0, 2), 0);
        Check.same("nothing is paid", docket.value(5), 0);
        Check.same("no surcharge", docket.value(6), 0);
        Check.same("it lapses", docket.pass(1), 1);
    }

    // Promise 10: "Returns the sum that is paid."
    private static void payAllOfNone() {
        FeeDocket docket = new FeeDocket();
        Check.same("no rights", docket.payAll(), 0);
        Check.same("saved even so", docket.undo(), 0);
        FeeDocket early = lapsedOn(275);
        Check.same("too early", early.payAll(), 0);
        early.pass(1);
        Check.same("90 days ahead", early.payAll(), 120);
        Check.same("lapsed", lapsedOn(548).payAll(), 0);
        Check.same("on the last day of the grace", lapsedOn(547).payAll(), 180);
        Check.same("no fee is left", Dockets.paidUpTo(19).payAll(), 0);
    }

    private static void payAllOfTen() {
        FeeDocket docket = Dockets.withRights(false, true, false, true, false, true, false, true, false, true);
        docket.pass(367);
        Check.same("five whole and five small ones", docket.payAll(), 5 * 180 + 5 * 90);
        for (int right = 0; right < 10; right++) {
            Check.same("paid for " + right, docket.right(right, 12), right % 2 == 0 ? 180 : 90);
        }
        Check.same("value(5)", docket.value(5), 1350);
        Check.same("value(6)", docket.value(6), 5 * 60 + 5 * 30);
        Check.same("again", docket.payAll(), 0);
    }

    // "Pays all fees that can be paid today"
    private static void payAllLeavesWhatCannotBePaid() {
        FeeDocket docket = Dockets.busy();
        // Right 0 can pay from day 642 on; right 1 is lapsed; right 2 pays in its grace; right 3 has paid.
        Check.same("right 2 alone", docket.payAll(), 162);
        int[] paid = {1, 0, 1, 1};
        for (int right = 0; right < 4; right++) {
            Check.same("fees paid for " + right, docket.right(right, 2), paid[right]);
        }
        Dockets.passTo(docket, 641);
        Check.same("91 days ahead", docket.payAll(), 0);
        docket.pass(1);
        Check.same("90 days ahead", docket.payAll(), 143);
        FeeDocket last = Dockets.withTenRights();
        Dockets.passTo(last, 300);
        for (int right = 0; right < 9; right++) {
            last.pay(right);
        }
        Check.same("the last one alone", last.payAll(), 120);
    }

    // "each right once, in ascending order"
    private static void payAllPaysEachRightOnce() {
        FeeDocket docket = Dockets.withRights(false, false);
        int sum = 0;
        for (int year = 1; year <= 19; year++) {
            Dockets.passTo(docket, docket.due(0, year, false) - 90);
            Check.same("year " + year, docket.payAll(), 2 * (100 + 20 * year));
            Check.same("again on this day", docket.payAll(), 0);
            Check.same("fees of right 0", docket.right(0, 2), year);
            Check.same("fees of right 1", docket.right(1, 2), year);
            sum += 2 * (100 + 20 * year);
        }
        Check.same("value(5)", docket.value(5), sum);
    }

    private static void payAllIsUndoable() {
        FeeDocket docket = Dockets.withTenRights();
        docket.pass(547);
        Check.same("ten", docket.payAll(), 1800);
        Check.same("undo()", docket.undo(), 3);
        Check.same("nothing is paid", docket.value(5), 0);
        Check.same("ten lapse", docket.pass(1), 10);
    }

    // Promise 20: "NONE if there is none"
    private static void nextDueOfNone() {
        Check.same("no rights", new FeeDocket().nextDue(), NONE);
        Check.same("lapsed", lapsedOn(548).nextDue(), NONE);
        Check.same("no fee is left", Dockets.paidUpTo(19).nextDue(), NONE);
    }

    private static void nextDueOfOne() {
        Check.same("on the day of filing", Dockets.withRights(false).nextDue(), 0);
        Check.same("in the grace", lapsedOn(547).nextDue(), 0);
        Check.same("filed on the last day", Dockets.withRightOn(18262, true).nextDue(), 0);
        FeeDocket docket = lapsedOn(600);
        docket.revive(0);
        Check.same("revived", docket.nextDue(), 0);
        Check.same("the last year", Dockets.paidUpTo(18).nextDue(), 0);
    }

    // "Returns the right, of several the lowest one"
    private static void nextDueTakesTheLowestOfSeveral() {
        FeeDocket docket = Dockets.withTenRights();
        docket.pass(300);
        for (int right = 0; right < 10; right++) {
            Check.same("the lowest one", docket.nextDue(), right);
            docket.pay(right);
        }
        Check.same("all for year 2", docket.nextDue(), 0);
    }

    // 12 months after 4, 5 and 6 January are days 369 and 370, of the weekend, and 371: all are due on day 371.
    private static void nextDueComparesPutOffDays() {
        Check.same("all are due on day 371", parsed("0-1-6;0-1-4;0-1-5;").nextDue(), 0);
        Check.same("a day earlier", parsed("0-1-6;0-1-4;0-1-3;").nextDue(), 2);
        Check.same("a day later", parsed("0-1-7;0-1-4;0-1-5;0-1-6;").nextDue(), 1);
    }

    // "whose next unpaid fee, not lapsed, is due first"
    private static void nextDuePassesLapsedRightsBy() {
        FeeDocket docket = new FeeDocket();
        docket.file(false);
        docket.pass(1);
        docket.file(false);
        Dockets.passTo(docket, 547);
        Check.same("in its grace", docket.nextDue(), 0);
        docket.pass(1);
        Check.same("lapsed", docket.nextDue(), 1);
        docket.revive(0);
        Check.same("revived, due on day 731", docket.nextDue(), 1);
        docket.pass(1);
        Check.same("the other one is lapsed", docket.nextDue(), 0);
    }

    private static void nextDuePassesPaidRightsBy() {
        FeeDocket docket = Dockets.paidUpTo(18);
        docket.pass(10);
        docket.file(false);
        Check.same("year 19 is due first", docket.nextDue(), 0);
        Dockets.passTo(docket, docket.due(0, 19, false));
        Check.same("on its due day", docket.nextDue(), 0);
        docket.pay(0);
        Check.same("no fee is left", docket.right(0, 3), NONE);
        Check.same("the other one", docket.nextDue(), 1);
    }

    private static void nextDueOfTen() {
        FeeDocket docket = parsed("0-2-1;0-2-2;0-2-3;0-2-4;0-2-5;0-2-6;0-2-7;0-2-8;0-2-9;0-1-1;");
        Check.same("the last one", docket.nextDue(), 9);
        docket.pass(300);
        docket.pay(9);
        Check.same("the first one", docket.nextDue(), 0);
        Check.same("in the middle", parsed("0-2-1;0-1-1;0-2-1;0-1-1;").nextDue(), 1);
    }

    // Promise 21: "days: 0 to 4000"
    private static void costsTakes0To4000Days() {
        FeeDocket docket = Dockets.withRights(false);
        Check.same("costs(0)", docket.costs(0), 0);
        Check.same("costs(1)", docket.costs(1), 0);
        Check.same("costs(3999)", docket.costs(3999), sumOfFees(1, 10));
        Check.same("costs(4000)", docket.costs(4000), sumOfFees(1, 10));
        Check.same("no rights", new FeeDocket().costs(4000), 0);
        FeeDocket last = Dockets.withRightOn(18262, false);
        Check.same("filed on the last day", last.costs(4000), sumOfFees(1, 10));
        Dockets.passTo(last, 27758);
        Check.same("on the last day of year 75", last.costs(4000), 0);
    }

    // "Throws IllegalArgumentException if days is out of range"
    private static void costsRefusesOtherDays() {
        for (int days : new int[] {-1, 4001, Integer.MIN_VALUE, Integer.MAX_VALUE, Integer.MAX_VALUE - 600}) {
            busyRefuses("costs(" + days + ")", Check.ARGUMENT, docket -> docket.costs(days));
        }
    }

    // "the sum of all fees whose due day is at most today + days"
    private static void costsTakesTheLastDay() {
        FeeDocket docket = Dockets.withRights(false);
        Check.same("a day too few", docket.costs(365), 0);
        Check.same("on the due day", docket.costs(366), 120);
        Dockets.passTo(docket, 365);
        Check.same("today", docket.costs(0), 0);
        Check.same("tomorrow", docket.costs(1), 120);
        docket.pass(1);
        Check.same("due today", docket.costs(0), 120);
        // The due day of day 3, day 369, is put off to day 371.
        FeeDocket putOff = Dockets.withRightOn(3, false);
        Check.same("ahead of the put-off day", putOff.costs(367), 0);
        Check.same("on the put-off day", putOff.costs(368), 120);
    }

    private static void costsOfSeveralYears() {
        FeeDocket docket = Dockets.withRights(false, true);
        for (int year = 1; year <= 10; year++) {
            int due = docket.due(0, year, false);
            Check.same("ahead of year " + year, docket.costs(due - 1), halfMore(sumOfFees(1, year - 1)));
            Check.same("up to year " + year, docket.costs(due), halfMore(sumOfFees(1, year)));
        }
        FeeDocket ten = Dockets.withTenRights();
        Check.same("ten rights", ten.costs(731), 10 * 260);
        ten.setFees(9999, 999, 100, 9999);
        Check.same("at most", ten.costs(4000), 10 * (10 * 9999 + 55 * 999));
    }

    private static int halfMore(int sum) {
        return sum + sum / 2;
    }

    // "all rights that are not lapsed", "with the surcharge for those that are in their grace today"
    private static void costsOfGraceAndLapse() {
        FeeDocket docket = Dockets.withRights(false);
        Dockets.passTo(docket, 366);
        Check.same("on the due day", docket.costs(0), 120);
        docket.pass(1);
        Check.same("in the grace", docket.costs(0), 180);
        Check.same("and the next year without surcharge", docket.costs(364), 180 + 140);
        Dockets.passTo(docket, 547);
        Check.same("on the last day of the grace", docket.costs(0), 180);
        Check.same("and two years", docket.costs(1096 - 547), 180 + 140 + 160);
        docket.pass(1);
        Check.same("lapsed", docket.costs(0), 0);
        Check.same("lapsed", docket.costs(4000), 0);
        docket.revive(0);
        Check.same("revived", docket.costs(0), 0);
        Check.same("revived", docket.costs(731 - 548), 140);
        FeeDocket busy = Dockets.busy();
        Check.same("right 2 in its grace", busy.costs(0), 162);
        Check.same("and right 0 in time", busy.costs(732 - 601), 162 + 143);
    }

    private static void costsWithoutAFee() {
        Check.same("no fee is left", Dockets.paidUpTo(19).costs(4000), 0);
        Check.same("the last fee", Dockets.paidUpTo(18).costs(4000), 480);
        FeeDocket paid = Dockets.paidUpTo(1);
        Check.same("what is paid does not count", paid.costs(364), 0);
        Check.same("the next one does", paid.costs(365), 140);
    }

    private static void costsLeavesTheDocket() {
        FeeDocket docket = Dockets.busy();
        docket.costs(4000);
        docket.lapsing(4000);
        docket.nextDue();
        docket.share(0);
        Check.same("the docket behind the forecasts", Picture.of(docket), Picture.of(Dockets.busy()));
    }

    // Promise 22: "days: 0 to 4000"
    private static void lapsingTakes0To4000Days() {
        FeeDocket docket = Dockets.withRights(false);
        Check.same("lapsing(0)", docket.lapsing(0), 0);
        Check.same("lapsing(1)", docket.lapsing(1), 0);
        Check.same("lapsing(3999)", docket.lapsing(3999), 1);
        Check.same("lapsing(4000)", docket.lapsing(4000), 1);
        Check.same("no rights", new FeeDocket().lapsing(4000), 0);
        FeeDocket last = Dockets.withRightOn(18262, false);
        Check.same("filed on the last day", last.lapsing(4000), 1);
        Dockets.passTo(last, 27758);
        Check.same("on the last day of year 75", last.lapsing(4000), 0);
    }

    // "Throws IllegalArgumentException if days is out of range"
    private static void lapsingRefusesOtherDays() {
        for (int days : new int[] {-1, 4001, Integer.MIN_VALUE, Integer.MAX_VALUE, Integer.MAX_VALUE - 600}) {
            busyRefuses("lapsing(" + days + ")", Check.ARGUMENT, docket -> docket.lapsing(days));
        }
    }

    // "how many rights would lapse in the next days if nothing were paid"
    private static void lapsingCountsFromTomorrow() {
        FeeDocket docket = Dockets.withRights(false);
        Check.same("up to the end of the grace", docket.lapsing(547), 0);
        Check.same("up to the day behind it", docket.lapsing(548), 1);
        Dockets.passTo(docket, 547);
        Check.same("today", docket.lapsing(0), 0);
        Check.same("tomorrow", docket.lapsing(1), 1);
        docket.pass(1);
        Check.same("lapsed today", docket.lapsing(0), 0);
        Check.same("lapsed rights do not lapse", docket.lapsing(4000), 0);
        // Day 551 is put off to day 553.
        FeeDocket putOff = Dockets.withRightOn(4, false);
        Check.same("up to the put-off grace", putOff.lapsing(549), 0);
        Check.same("up to the day behind it", putOff.lapsing(550), 1);
    }

    private static void lapsingCountsEachRightOnce() {
        FeeDocket docket = Dockets.withTenRights();
        Check.same("ten", docket.lapsing(4000), 10);
        docket.pass(300);
        for (int right = 0; right < 9; right++) {
            docket.pay(right);
        }
        Check.same("one that has not paid", docket.lapsing(548 - 300), 1);
        Check.same("a day ahead of the others", docket.lapsing(912 - 300), 1);
        Check.same("the others, too", docket.lapsing(913 - 300), 10);
        Check.same("no fee is left", Dockets.paidUpTo(19).lapsing(4000), 0);
        Check.same("the last fee", Dockets.paidUpTo(18).lapsing(4000), 1);
    }

    private static void lapsingForeseesPass() {
        for (int days : new int[] {1, 148, 149, 311, 312, 1000, 4000}) {
            int foreseen = Dockets.busy().lapsing(days);
            Check.same("the lapses of " + days + " days", Dockets.busy().pass(days), foreseen);
        }
        Check.same("right 2 up to the end of its grace", Dockets.busy().lapsing(148), 0);
        Check.same("right 2 behind it", Dockets.busy().lapsing(149), 1);
        Check.same("right 0, too", Dockets.busy().lapsing(312), 2);
        Check.same("all but the lapsed one", Dockets.busy().lapsing(4000), 3);
    }

    private static int sumOfFees(int first, int last) {
        int sum = 0;
        for (int year = first; year <= last; year++) {
            sum += 100 + 20 * year;
        }
        return sum;
    }

    private static FeeDocket parsed(String text) {
        FeeDocket docket = Dockets.withText(text);
        docket.parse();
        return docket;
    }

    private static void busyRefuses(String call, String exception, Consumer<FeeDocket> body) {
        Check.refused(call, exception, Dockets::busy, body);
    }
}
