/** Promises 9, 10, 20, 21 and 22: paying, and what falls due. */
public final class PayingTest {
    public static void main(String[] args) {
        payingBeginsAndEnds();
        payingGoesYearByYear();
        payingIsRefused();
        allArePaidOnce();
        nextDueFindsTheFirst();
        costsAddUp();
        lapsesAreForeseen();
        Check.done("PayingTest");
    }

    // Promise 9
    private static void payingBeginsAndEnds() {
        FeeDocket docket = Dockets.withRights(false);
        Dockets.passTo(docket, 366 - 91);
        Check.badState("91 days ahead", () -> docket.pay(0));
        docket.pass(1);
        Check.same("90 days ahead", docket.pay(0), 120);
        Check.badState("the next year is too early", () -> docket.pay(0));
        docket.undo();
        Dockets.passTo(docket, 366);
        Check.same("on the due day", docket.pay(0), 120);
        docket.undo();
        docket.pass(1);
        Check.same("in the grace", docket.pay(0), 180);
        Check.same("value(6)", docket.value(6), 60);
        docket.undo();
        Check.same("undo", docket.value(6), 0);
        Dockets.passTo(docket, 547);
        Check.same("at the end of the grace", docket.pay(0), 180);
        docket.undo();
        docket.pass(1);
        Check.badState("behind the grace", () -> docket.pay(0));
        Check.changesNothing("behind the grace", docket, () -> docket.pay(0));
    }

    private static void payingGoesYearByYear() {
        FeeDocket docket = Dockets.withRights(false);
        int sum = 0;
        for (int year = 1; year <= 19; year++) {
            Dockets.passTo(docket, docket.due(0, year, false) - 90);
            Check.same("year " + year, docket.pay(0), 100 + 20 * year);
            sum += 100 + 20 * year;
        }
        Check.same("value(5)", docket.value(5), sum);
        Check.same("value(6)", docket.value(6), 0);
        Check.badState("no fee is left", () -> docket.pay(0));
        docket.pass(1000);
        Check.badState("no fee is left", () -> docket.pay(0));
    }

    private static void payingIsRefused() {
        FeeDocket docket = Dockets.withRights(false);
        int[] wrong = {-1, 1, 10, Integer.MIN_VALUE, Integer.MAX_VALUE};
        for (int right : wrong) {
            Check.badIndex("pay(" + right + ")", () -> docket.pay(right));
            Check.changesNothing("pay(" + right + ")", docket, () -> docket.pay(right));
        }
        Check.badState("too early", () -> docket.pay(0));
    }

    // Promise 10
    private static void allArePaidOnce() {
        FeeDocket docket = new FeeDocket();
        Check.same("without rights", docket.payAll(), 0);
        Check.same("saved even so", docket.undo(), 0);
        docket.file(false);
        docket.pass(200);
        docket.file(true);
        docket.pass(200);
        docket.file(false);
        Check.same("one in its grace, one ahead of it", docket.payAll(), 180);
        Check.same("only the first", docket.right(1, 2), 0);
        Check.same("again", docket.payAll(), 0);
        docket.pass(80);
        Check.same("the second", docket.payAll(), 60);
        docket.undo();
        Check.same("undo", docket.right(1, 2), 0);
        docket.pass(500);
        Check.same("the lapsed ones do not pay", docket.right(1, 7), 1);
        // On day 980 right 0 is lapsed, too; the grace of right 2, filed on day 400, goes on to day 948.
        Check.same("all are lapsed", docket.payAll(), 0);
        Check.same("value(5)", docket.value(5), 180);
        Check.same("value(6)", docket.value(6), 60);
    }

    // Promise 20
    private static void nextDueFindsTheFirst() {
        FeeDocket docket = new FeeDocket();
        Check.same("none", docket.nextDue(), FeeDocket.NONE);
        docket.file(false);
        docket.pass(30);
        docket.file(false);
        docket.file(true);
        Check.same("the earliest", docket.nextDue(), 0);
        Dockets.passTo(docket, 366);
        docket.pay(0);
        Check.same("of two the lower one", docket.nextDue(), 1);
        docket.pass(40);
        docket.pay(1);
        Check.same("in its grace", docket.nextDue(), 2);
        docket.pass(200);
        Check.same("a lapsed one does not count", docket.right(2, 7), 1);
        Check.same("the first again", docket.nextDue(), 0);
        docket.pass(4000);
        Check.same("all are lapsed", docket.nextDue(), FeeDocket.NONE);
    }

    // Promise 21
    private static void costsAddUp() {
        FeeDocket docket = Dockets.withRights(false, true);
        Check.same("too far", docket.costs(365), 0);
        Check.same("on the due day", docket.costs(366), 120 + 60);
        Check.same("two years", docket.costs(731), 120 + 60 + 140 + 70);
        Dockets.passTo(docket, 366);
        Check.same("due today", docket.costs(0), 180);
        docket.pass(1);
        Check.same("with the surcharge", docket.costs(0), 180 + 90);
        Check.same("the next year without", docket.costs(731 - 367), 180 + 90 + 140 + 70);
        docket.pay(0);
        Check.same("the paid fee is gone", docket.costs(0), 90);
        Dockets.passTo(docket, 548);
        Check.same("the lapsed right does not count", docket.costs(1000), 140 + 160 + 180);
        FeeDocket old = Dockets.withRights(false);
        Dockets.passTo(old, 366);
        for (int year = 1; year <= 19; year++) {
            Dockets.passTo(old, old.due(0, year, false));
            Check.same("the years left", old.costs(4000), sumOfFees(year, Math.min(19, year + 10)));
            old.pay(0);
        }
        Check.same("no fee is left", old.costs(4000), 0);
        int[] wrong = {-1, 4001, Integer.MIN_VALUE, Integer.MAX_VALUE};
        for (int days : wrong) {
            Check.badArgument("costs(" + days + ")", () -> docket.costs(days));
        }
        Dockets.passTo(docket, 27758);
        Check.same("behind the last year", docket.costs(4000), 0);
    }

    private static int sumOfFees(int first, int last) {
        int sum = 0;
        for (int year = first; year <= last; year++) {
            sum += 100 + 20 * year;
        }
        return sum;
    }

    // Promise 22
    private static void lapsesAreForeseen() {
        FeeDocket docket = Dockets.withRights(false, true);
        Check.same("up to the end of the grace", docket.lapsing(547), 0);
        Check.same("behind it", docket.lapsing(548), 2);
        Check.same("each once", docket.lapsing(4000), 2);
        Dockets.passTo(docket, 547);
        docket.pay(1);
        Check.same("today", docket.lapsing(0), 0);
        Check.same("tomorrow", docket.lapsing(1), 1);
        docket.pass(1);
        Check.same("lapsed already", docket.lapsing(1), 0);
        Check.same("the other one", docket.lapsing(4000), 1);
        int[] wrong = {-1, 4001, Integer.MIN_VALUE, Integer.MAX_VALUE};
        for (int days : wrong) {
            Check.badArgument("lapsing(" + days + ")", () -> docket.lapsing(days));
        }
        Dockets.passTo(docket, 27758);
        Check.same("behind the last year", docket.lapsing(4000), 0);
    }
}
