/** Promises 11, 12, 16, 17, 18 and 23: revivals, users, and what stood on which day. */
public final class RevivalTest {
    public static void main(String[] args) {
        revivalCosts();
        revivalEnds();
        revivalPaysSeveralYears();
        revivalBeforeTheEndOfLife();
        revivalIsRefused();
        gapsMayOverlap();
        usersBegin();
        usersAreRefused();
        usersOfTheDayOfRevival();
        standingIsTold();
        standingIsRefused();
        shareCountsDays();
        Check.done("RevivalTest");
    }

    // Promise 11
    private static void revivalCosts() {
        FeeDocket docket = Dockets.withRights(false, true);
        Dockets.passTo(docket, 547);
        Check.badState("in the grace", () -> docket.revive(0));
        docket.pass(1);
        Check.same("fee, surcharge and petition", docket.revive(0), 120 + 60 + 300);
        Check.same("small", docket.revive(1), 60 + 30 + 300);
        Check.badState("it stands again", () -> docket.revive(0));
        Check.same("value(5)", docket.value(5), 480 + 390);
        Check.same("value(6)", docket.value(6), 90);
        Check.same("value(7)", docket.value(7), 600);
        Check.same("right(0, 12)", docket.right(0, 12), 480);
        Check.same("the year is paid", docket.right(0, 3), 2);
        docket.undo();
        Check.same("undo", docket.right(1, 7), 1);
        Check.same("undo", docket.value(7), 300);
    }

    private static void revivalEnds() {
        FeeDocket docket = Dockets.withRights(false);
        // 12 months after day 547 (1 July of year 1), put off.
        int end = docket.putOff(docket.later(547, 12));
        Dockets.passTo(docket, end);
        Check.same("on the last day", docket.revive(0) > 0, true);
        docket.undo();
        docket.pass(1);
        Check.badState("the day behind it", () -> docket.revive(0));
        Check.changesNothing("too late", docket, () -> docket.revive(0));
        // The grace ends on a weekend or holiday; both put-offs count.
        FeeDocket twice = new FeeDocket();
        twice.holiday(7, 5);
        twice.holiday(7, 6);
        twice.pass(1);
        twice.file(false);
        int grace = twice.due(0, 1, true);
        int last = twice.putOff(twice.later(grace, 12));
        Dockets.passTo(twice, last);
        Check.same("put off twice", twice.revive(0) > 0, true);
        twice.undo();
        twice.pass(1);
        Check.badState("behind it", () -> twice.revive(0));
    }

    private static void revivalPaysSeveralYears() {
        FeeDocket docket = Dockets.withRights(false);
        int grace = docket.due(0, 2, true);
        Dockets.passTo(docket, grace);
        Check.same("still in the second grace", docket.revive(0), 120 + 60 + 300);
        Check.same("the second fee is open", docket.right(0, 3), 2);
        severalYearsAtOnce();
    }

    // Where the first grace was put off, a revival can come behind the second grace, which was not.
    private static void severalYearsAtOnce() {
        int found = 0;
        for (int day = 0; day < 40; day++) {
            FeeDocket docket = Dockets.withRightOn(day, false);
            int grace = docket.due(0, 2, true);
            int end = docket.putOff(docket.later(docket.due(0, 1, true), 12));
            if (end > grace) {
                found++;
                Dockets.passTo(docket, grace + 1);
                Check.same("two years, one petition", docket.revive(0), 180 + 210 + 300);
                Check.same("the third is open", docket.right(0, 3), 3);
                Check.same("one gap", docket.right(0, 9), 1);
                Check.same("value(6)", docket.value(6), 60 + 70);
                Check.same("value(7)", docket.value(7), 300);
                Check.same("it stands", docket.stood(0, grace + 1), true);
                Check.same("covered", docket.covered(0, grace + 1), true);
                Check.same("the gap", docket.stood(0, grace), false);
                Check.same("not covered", docket.covered(0, grace), false);
            }
        }
        Check.same("some of the days", found > 0, true);
    }

    private static void revivalBeforeTheEndOfLife() {
        FeeDocket docket = Dockets.withRights(false);
        for (int year = 1; year <= 18; year++) {
            Dockets.passTo(docket, docket.due(0, year, false));
            docket.pay(0);
        }
        int last = docket.right(0, 8);
        Dockets.passTo(docket, last);
        Check.same("lapsed", docket.right(0, 7), 1);
        Check.same("a user", docket.use(0, 1), 1);
        Check.same("on its last day", docket.revive(0), 480 + 240 + 300);
        Check.same("no fee is left", docket.right(0, 3), FeeDocket.NONE);
        Check.same("it stands", docket.value(2), 1);
        int due = docket.due(0, 19, false);
        stands(docket, due, true);
        stands(docket, due + 1, false);
        stands(docket, last - 1, false);
        stands(docket, last, true);
        Check.same("share", docket.share(0), (due + 2) / (double) (last + 1));
        docket.pass(1);
        Check.same("its end", docket.value(2), 0);
        Check.badState("at its end nobody begins", () -> docket.use(0, 2));
        docket.undo();
        docket.undo();
        docket.pass(1);
        Check.badState("behind its last day", () -> docket.revive(0));
        Check.badState("nobody begins", () -> docket.use(0, 2));
    }

    private static void revivalIsRefused() {
        FeeDocket docket = Dockets.withRights(false);
        int[] wrong = {-1, 1, 10, Integer.MIN_VALUE, Integer.MAX_VALUE};
        for (int right : wrong) {
            Check.badIndex("revive(" + right + ")", () -> docket.revive(right));
        }
        Check.badState("not lapsed", () -> docket.revive(0));
        Check.changesNothing("not lapsed", docket, () -> docket.revive(0));
    }

    // Revived behind due(2), then lapsed for year 2: the second gap begins ahead of the revival.
    private static void gapsMayOverlap() {
        FeeDocket docket = Dockets.withRights(false);
        Dockets.passTo(docket, 800);
        docket.revive(0);
        Check.same("it stands", docket.stood(0, 800), true);
        Dockets.passTo(docket, 912);
        Check.same("in the grace it stood", docket.stood(0, 800), true);
        docket.pass(1);
        Check.same("the lapse reaches back", docket.stood(0, 800), false);
        Check.same("covered", docket.covered(0, 800), false);
        Check.same("no day behind due(1) is left", docket.share(0), 367.0 / 914.0);
        Dockets.passTo(docket, 1000);
        docket.revive(0);
        Check.same("gaps", docket.right(0, 9), 2);
        for (int day = 300; day <= 1000; day++) {
            if (day < 400 || day > 995 || day % 50 < 2) {
                stands(docket, day, day <= 366 || day == 1000);
            }
        }
        Check.same("share", docket.share(0), 368.0 / 1001.0);
    }

    // Promises 12 and 18
    private static void usersBegin() {
        FeeDocket docket = Dockets.withRights(false);
        Dockets.passTo(docket, 548);
        Check.same("the first", docket.use(0, 0), 1);
        Check.same("the second", docket.use(0, 9), 2);
        Check.same("begun", docket.user(0, 0), 1);
        Check.same("not begun", docket.user(0, 1), 0);
        Check.badState("again", () -> docket.use(0, 9));
        docket.undo();
        Check.same("undo", docket.user(0, 9), 0);
        docket.use(0, 9);
        docket.pass(10);
        docket.use(0, 3);
        docket.revive(0);
        Check.same("protected", docket.user(0, 0), 2);
        Check.same("protected", docket.user(0, 9), 2);
        Check.same("the day of the revival", docket.user(0, 3), 1);
        Check.same("users", docket.right(0, 10), 3);
        Check.same("protected users", docket.right(0, 11), 2);
        docket.undo();
        Check.same("undo", docket.user(0, 0), 1);
    }

    private static void usersAreRefused() {
        FeeDocket docket = Dockets.withRights(false);
        Check.badState("it stands", () -> docket.use(0, 0));
        Dockets.passTo(docket, 547);
        Check.badState("it stands in its grace", () -> docket.use(0, 0));
        docket.pass(1);
        int[] wrong = {-1, 10, Integer.MIN_VALUE, Integer.MAX_VALUE};
        for (int number : wrong) {
            Check.badArgument("use(0, " + number + ")", () -> docket.use(0, number));
            Check.badArgument("user(0, " + number + ")", () -> docket.user(0, number));
            Check.badIndex("use(" + number + ", 0)", () -> docket.use(number, 0));
            Check.badIndex("user(" + number + ", 0)", () -> docket.user(number, 0));
            Check.badIndex("the right counts first", () -> docket.use(number, number));
            Check.badIndex("the right counts first", () -> docket.user(number, number));
            Check.changesNothing("use(0, " + number + ")", docket, () -> docket.use(0, number));
        }
        docket.use(0, 0);
        Check.badArgument("the user counts first", () -> docket.use(0, 10));
        Check.changesNothing("again", docket, () -> docket.use(0, 0));
        Dockets.passTo(docket, docket.right(0, 8));
        Check.same("on its last day", docket.use(0, 1), 2);
        docket.pass(1);
        Check.badState("behind it", () -> docket.use(0, 2));
    }

    // A gap that begins behind the begin does not protect; one that reaches back over it does.
    private static void usersOfTheDayOfRevival() {
        FeeDocket later = Dockets.withRights(false);
        Dockets.passTo(later, 600);
        later.use(0, 1);
        later.revive(0);
        Dockets.passTo(later, 1000);
        later.use(0, 2);
        later.pass(1);
        later.revive(0);
        Check.same("ahead of the second gap", later.user(0, 1), 1);
        Check.same("within it", later.user(0, 2), 2);
        FeeDocket over = Dockets.withRights(false);
        Dockets.passTo(over, 800);
        over.use(0, 1);
        over.revive(0);
        Check.same("not yet", over.user(0, 1), 1);
        Dockets.passTo(over, 913);
        Check.same("not by the lapse", over.user(0, 1), 1);
        over.revive(0);
        Check.same("by the second revival", over.user(0, 1), 2);
    }

    // Promises 16 and 17
    private static void standingIsTold() {
        FeeDocket docket = Dockets.withRightOn(100, false);
        int due = docket.due(0, 1, false);
        int grace = docket.due(0, 1, true);
        Dockets.passTo(docket, grace);
        stands(docket, 99, false);
        stands(docket, 100, true);
        stands(docket, due, true);
        stands(docket, due + 1, true);
        stands(docket, grace, true);
        docket.pass(1);
        stands(docket, due, true);
        stands(docket, due + 1, false);
        stands(docket, grace + 1, false);
        docket.pass(9);
        docket.revive(0);
        stands(docket, due, true);
        stands(docket, due + 1, false);
        stands(docket, grace + 9, false);
        stands(docket, grace + 10, true);
        for (int year = 2; year <= 19; year++) {
            Dockets.passTo(docket, docket.due(0, year, true));
            docket.pay(0);
        }
        int last = docket.right(0, 8);
        Dockets.passTo(docket, last + 1);
        stands(docket, due + 1, false);
        stands(docket, docket.due(0, 2, false) + 1, true);
        stands(docket, last, true);
        stands(docket, last + 1, false);
    }

    private static void stands(FeeDocket docket, int day, boolean due) {
        Check.same("stood(0, " + day + ")", docket.stood(0, day), due);
        Check.same("covered(0, " + day + ")", docket.covered(0, day), due);
    }

    private static void standingIsRefused() {
        FeeDocket docket = Dockets.withRights(false);
        docket.pass(5);
        int[] wrong = {-1, 6, Integer.MIN_VALUE, Integer.MAX_VALUE};
        for (int number : wrong) {
            Check.badArgument("stood(0, " + number + ")", () -> docket.stood(0, number));
            Check.badArgument("covered(0, " + number + ")", () -> docket.covered(0, number));
            Check.badIndex("stood(" + number + ", 0)", () -> docket.stood(number, 0));
            Check.badIndex("covered(" + number + ", 0)", () -> docket.covered(number, 0));
            Check.badIndex("stood", () -> docket.stood(number, number));
            Check.badIndex("covered", () -> docket.covered(number, number));
            Check.badIndex("share(" + number + ")", () -> docket.share(number));
        }
        Check.badIndex("share(1)", () -> docket.share(1));
        Check.same("today", docket.stood(0, 5), true);
        Check.same("today", docket.covered(0, 5), true);
    }

    // Promise 23
    private static void shareCountsDays() {
        FeeDocket docket = Dockets.withRightOn(10, false);
        Check.same("on the first day", docket.share(0), 1.0);
        int due = docket.due(0, 1, false);
        Dockets.passTo(docket, docket.due(0, 1, true));
        Check.same("in the grace", docket.share(0), 1.0);
        docket.pass(1);
        Check.same("lapsed", docket.share(0), (due - 9) / (double) (docket.value(0) - 9));
        docket.pass(2);
        docket.revive(0);
        Check.same("revived", docket.share(0), (due - 9 + 1) / (double) (docket.value(0) - 9));
        int last = docket.right(0, 8);
        int second = docket.due(0, 2, false);
        int stood = due - 9 + second - (docket.value(0) - 1);
        Dockets.passTo(docket, last + 500);
        Check.same("behind its end", docket.share(0), stood / (double) (last - 9));
    }
}
