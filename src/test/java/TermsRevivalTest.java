/** "Terms", revival and users: a test for each sentence, with the boundaries that it names. */
public final class TermsRevivalTest {
    public static void main(String[] args) {
        revivalBeginsBehindTheGrace();
        revivalEndsAYearBehindTheGrace();
        revivalsEndIsPutOffAgain();
        revivalsEndRestsOnThePutOffGrace();
        revivalsEndKeepsToTheMonth();
        revivalsEndMayBeAHoliday();
        revivalsEndOfEveryDay();
        feeSurchargeAndPetitionArePaid();
        petitionIs0To9999();
        petitionIsNotHalved();
        rightStandsFromTheRevivalOn();
        nextYearInItsGraceIsNotPaid();
        nextYearBehindItsGraceIsPaid();
        gapBeginsBehindTheDueDay();
        gapOfTwoYearsIsOne();
        gapEndsAheadOfTheRevival();
        notRevivedBehindTheLastDay();
        usersBeginOnceTheRightIsLapsed();
        usersBeginUpToTheLastDay();
        nobodyBeginsWithAPaidRightAtItsEnd();
        usersAre0To9();
        usersOfTheGapAreProtected();
        usersOfTheRevivalsDayAreNot();
        protectionComesWithTheRevival();
        protectionStays();
        usersBeginOnce();
        refusedUsersKeepTheirFirstDay();
        usersBeginWithEachRight();
        Check.done("TermsRevivalTest");
    }

    // "A lapsed right can be revived"
    private static void revivalBeginsBehindTheGrace() {
        FeeDocket docket = Dockets.withRights(false);
        Dockets.passTo(docket, 367);
        Check.badState("behind due(1)", () -> docket.revive(0));
        Dockets.passTo(docket, 547);
        Check.badState("on grace(1)", () -> docket.revive(0));
        docket.pass(1);
        Check.same("behind grace(1)", docket.revive(0), 480);
        Check.badState("no longer lapsed", () -> docket.revive(0));
    }

    // "on a day up to the day that is 12 months after the day grace(k)"
    private static void revivalEndsAYearBehindTheGrace() {
        // 12 months after day 547 (1 July of year 1) is day 912, a working day.
        revivalEnds(Dockets.withRights(false), 547, 912);
    }

    // "put off again": 12 months after day 550 is day 915, of the weekend.
    private static void revivalsEndIsPutOffAgain() {
        revivalEnds(Dockets.withRightOn(3, false), 550, 917);
    }

    // grace(1) of day 5 is put off from day 552 to day 553; the year is counted from there.
    private static void revivalsEndRestsOnThePutOffGrace() {
        revivalEnds(Dockets.withRightOn(5, false), 553, 918);
    }

    // Filed on 29 August of year 2: grace(1) is 29 February of year 4, the year behind it ends on 28 February.
    private static void revivalsEndKeepsToTheMonth() {
        revivalEnds(Dockets.withRightOn(971, false), 1520, 1885);
    }

    private static void revivalsEndMayBeAHoliday() {
        FeeDocket docket = new FeeDocket();
        docket.holiday(2, 28);
        Dockets.passTo(docket, 971);
        docket.file(false);
        revivalEnds(docket, 1520, 1886);
    }

    // Four years of filings: some of the years behind the grace have 366 days.
    private static void revivalsEndOfEveryDay() {
        Model calendar = new Model();
        for (int filed = 0; filed < 1461; filed++) {
            FeeDocket docket = Dockets.withRightOn(filed, true);
            int grace = calendar.off(Model.months(filed, 18));
            revivalEnds(docket, grace, calendar.off(Model.months(grace, 12)));
        }
    }

    private static void revivalEnds(FeeDocket docket, int grace, int end) {
        String of = "the right of day " + docket.right(0, 0);
        Check.same("grace(1) of " + of, docket.due(0, 1, true), grace);
        Dockets.passTo(docket, end);
        Check.same("on the last day, " + of, Check.outcome(() -> docket.revive(0)), "");
        Check.same("it stands, " + of, docket.right(0, 7), 0);
        docket.undo();
        docket.pass(1);
        Check.badState("behind the last day, " + of, () -> docket.revive(0));
    }

    // "the fee, the surcharge and the petition ... are paid for year k"
    private static void feeSurchargeAndPetitionArePaid() {
        FeeDocket docket = Dockets.withRights(false, true);
        docket.setFees(101, 10, 33, 77);
        Dockets.passTo(docket, 600);
        Check.same("111, 36 and 77", docket.revive(0), 224);
        Check.same("year 1 is paid", docket.right(0, 2), 1);
        Check.same("all that has been paid for it", docket.right(0, 12), 224);
        Check.same("nothing for the other one", docket.right(1, 12), 0);
        Check.same("all that has been paid", docket.value(5), 224);
        Check.same("the surcharges", docket.value(6), 36);
        Check.same("the petitions", docket.value(7), 77);
    }

    // "the petition (0 to 9999, initially 300)"
    private static void petitionIs0To9999() {
        FeeDocket docket = Dockets.withRights(false);
        Dockets.passTo(docket, 600);
        Check.same("initially", docket.revive(0), 480);
        docket.undo();
        docket.setFees(100, 20, 50, 0);
        Check.same("no petition", docket.revive(0), 180);
        Check.same("value(7)", docket.value(7), 0);
        Check.same("a gap even so", docket.right(0, 9), 1);
        docket.undo();
        docket.setFees(100, 20, 50, 9999);
        Check.same("the greatest petition", docket.revive(0), 180 + 9999);
        Check.same("value(7)", docket.value(7), 9999);
        Check.same("value(6)", docket.value(6), 60);
    }

    private static void petitionIsNotHalved() {
        FeeDocket docket = Dockets.withRights(true);
        docket.setFees(100, 20, 50, 301);
        Dockets.passTo(docket, 600);
        Check.same("60, 30 and 301", docket.revive(0), 391);
    }

    // "and the right stands again from this day on"
    private static void rightStandsFromTheRevivalOn() {
        FeeDocket docket = Dockets.withRights(false);
        Dockets.passTo(docket, 600);
        Check.same("value(2)", docket.value(2), 0);
        docket.revive(0);
        Check.same("value(2)", docket.value(2), 1);
        Check.same("value(3)", docket.value(3), 0);
        stands(docket, 599, false);
        stands(docket, 600, true);
        docket.pass(1);
        stands(docket, 601, true);
        Check.same("the fee for year 2 is due", docket.right(0, 4), 731);
        Dockets.passTo(docket, 731);
        Check.same("and paid in time", docket.pay(0), 140);
    }

    // "If the grace of the then next unpaid year is over, too (it ends ahead of today)": on day 917 it is not over.
    private static void nextYearInItsGraceIsNotPaid() {
        FeeDocket docket = Dockets.withRightOn(5, false);
        Check.same("grace(2)", docket.due(0, 2, true), 917);
        Dockets.passTo(docket, 917);
        Check.same("year 1 alone", docket.revive(0), 480);
        Check.same("year 2 is next", docket.right(0, 3), 2);
        Check.same("it stands in the grace of year 2", docket.right(0, 7), 0);
        stands(docket, 916, false);
        stands(docket, 917, true);
        Check.same("it lapses tomorrow", docket.lapsing(1), 1);
        Check.same("it lapses", docket.pass(1), 1);
        stands(docket, 917, false);
    }

    // "that fee is paid at the same time, with surcharge but without a petition"
    private static void nextYearBehindItsGraceIsPaid() {
        FeeDocket docket = Dockets.withRightOn(5, false);
        docket.file(true);
        Dockets.passTo(docket, 918);
        Check.same("years 1 and 2, one petition", docket.revive(0), 180 + 210 + 300);
        Check.same("year 3 is next", docket.right(0, 3), 3);
        Check.same("two fees", docket.right(0, 2), 2);
        Check.same("not lapsed", docket.right(0, 7), 0);
        Check.same("right(0, 12)", docket.right(0, 12), 690);
        Check.same("value(5)", docket.value(5), 690);
        Check.same("value(6)", docket.value(6), 60 + 70);
        Check.same("value(7)", docket.value(7), 300);
        Check.same("small", docket.revive(1), 90 + 105 + 300);
        Check.same("the undoing of both years", docket.undo() >= 0 && docket.right(1, 2) == 0, true);
    }

    // "The days from the one behind due(k) to the one before the revival are a gap."
    private static void gapBeginsBehindTheDueDay() {
        FeeDocket docket = Dockets.withRightOn(3, false);
        Dockets.passTo(docket, 551);
        Check.same("the first day of lapse", docket.right(0, 7), 1);
        docket.revive(0);
        Check.same("one gap", docket.right(0, 9), 1);
        stands(docket, 2, false);
        stands(docket, 3, true);
        stands(docket, 371, true);
        stands(docket, 372, false);
        stands(docket, 550, false);
        stands(docket, 551, true);
    }

    private static void gapOfTwoYearsIsOne() {
        FeeDocket docket = Dockets.withRightOn(5, false);
        Dockets.passTo(docket, 918);
        docket.revive(0);
        Check.same("one gap", docket.right(0, 9), 1);
        stands(docket, 371, true);
        for (int day : new int[] {372, 553, 554, 736, 737, 917}) {
            stands(docket, day, false);
        }
        stands(docket, 918, true);
        Check.same("share", docket.share(0), 368.0 / 914.0);
    }

    private static void gapEndsAheadOfTheRevival() {
        FeeDocket docket = Dockets.withRights(false);
        Dockets.passTo(docket, 700);
        docket.revive(0);
        Dockets.passTo(docket, 731);
        docket.pay(0);
        Dockets.passTo(docket, 1400);
        docket.revive(0);
        Check.same("two gaps", docket.right(0, 9), 2);
        int due = docket.due(0, 3, false);
        for (int day : new int[] {366, 700, 701, 731, 732, due, 1400}) {
            stands(docket, day, true);
        }
        for (int day : new int[] {367, 699, due + 1, 1399}) {
            stands(docket, day, false);
        }
    }

    // "(It cannot be revived behind its last day.)": the time for year 19 ends behind the last day.
    private static void notRevivedBehindTheLastDay() {
        FeeDocket docket = Dockets.paidUpTo(18);
        int last = docket.right(0, 8);
        Check.same("its time goes on", docket.later(docket.due(0, 19, true), 12) > last + 1, true);
        Dockets.passTo(docket, last);
        Check.same("on the last day", docket.revive(0), 480 + 240 + 300);
        stands(docket, last, true);
        docket.undo();
        docket.pass(1);
        Check.badState("behind the last day", () -> docket.revive(0));
        docket.pass(1);
        Check.badState("two days behind it", () -> docket.revive(0));
    }

    // "On a day on which a right does not stand ... a user may begin to use it"
    private static void usersBeginOnceTheRightIsLapsed() {
        FeeDocket docket = Dockets.withRights(false);
        Check.badState("on the day of filing", () -> docket.use(0, 1));
        Dockets.passTo(docket, 367);
        Check.badState("in the grace", () -> docket.use(0, 1));
        Dockets.passTo(docket, 547);
        Check.badState("on grace(1)", () -> docket.use(0, 1));
        docket.pass(1);
        Check.same("behind grace(1)", docket.use(0, 1), 1);
        docket.revive(0);
        Check.badState("revived", () -> docket.use(0, 2));
        docket.pass(1);
        Check.badState("a day later", () -> docket.use(0, 2));
    }

    // "but is not yet at its end"
    private static void usersBeginUpToTheLastDay() {
        FeeDocket docket = Dockets.withRights(false);
        Dockets.passTo(docket, docket.right(0, 8));
        Check.same("on the last day", docket.use(0, 1), 1);
        docket.pass(1);
        Check.badState("behind the last day", () -> docket.use(0, 2));
        Check.same("the first one stays", docket.user(0, 1), 1);
    }

    private static void nobodyBeginsWithAPaidRightAtItsEnd() {
        FeeDocket docket = Dockets.paidUpTo(19);
        Dockets.passTo(docket, docket.right(0, 8));
        Check.badState("it stands on its last day", () -> docket.use(0, 1));
        docket.pass(1);
        Check.same("it does not stand behind it", docket.value(2), 0);
        Check.badState("but it is at its end", () -> docket.use(0, 1));
    }

    // "a user may begin to use it: 0 to 9"
    private static void usersAre0To9() {
        FeeDocket docket = Dockets.withRights(false);
        Dockets.passTo(docket, 548);
        Check.badArgument("user -1", () -> docket.use(0, -1));
        Check.badArgument("user 10", () -> docket.use(0, 10));
        Check.same("no users", docket.right(0, 10), 0);
        for (int user = 9; user >= 0; user--) {
            Check.same("not begun " + user, docket.user(0, user), 0);
            Check.same("user " + user, docket.use(0, user), 10 - user);
            Check.same("begun " + user, docket.user(0, user), 1);
        }
        Check.same("ten users", docket.right(0, 10), 10);
        docket.pass(1);
        docket.revive(0);
        Check.same("ten protected users", docket.right(0, 11), 10);
    }

    // "A user who began on a day of the gap (ahead of the day of the revival) is protected"
    private static void usersOfTheGapAreProtected() {
        FeeDocket docket = Dockets.withRights(false);
        Dockets.passTo(docket, 548);
        docket.use(0, 0);
        Dockets.passTo(docket, 650);
        docket.use(0, 5);
        Dockets.passTo(docket, 699);
        docket.use(0, 9);
        docket.pass(1);
        docket.revive(0);
        Check.same("began on the first day of the lapse", docket.user(0, 0), 2);
        Check.same("began within it", docket.user(0, 5), 2);
        Check.same("began on the last day ahead of the revival", docket.user(0, 9), 2);
        Check.same("not begun", docket.user(0, 1), 0);
        Check.same("protected users", docket.right(0, 11), 3);
    }

    private static void usersOfTheRevivalsDayAreNot() {
        FeeDocket docket = Dockets.withRights(false);
        Dockets.passTo(docket, 700);
        docket.use(0, 9);
        docket.revive(0);
        Check.same("began on the day of the revival", docket.user(0, 9), 1);
        Check.same("protected users", docket.right(0, 11), 0);
        docket.pass(1);
        Check.same("the day behind it", docket.user(0, 9), 1);
    }

    // "is protected from the revival on"
    private static void protectionComesWithTheRevival() {
        FeeDocket docket = Dockets.withRights(false);
        Dockets.passTo(docket, 600);
        docket.use(0, 4);
        docket.pass(100);
        Check.same("ahead of the revival", docket.user(0, 4), 1);
        Check.same("protected users", docket.right(0, 11), 0);
        docket.revive(0);
        Check.same("from the revival on", docket.user(0, 4), 2);
        docket.undo();
        Check.same("the revival undone", docket.user(0, 4), 1);
        // Never revived: nobody is protected.
        Dockets.passTo(docket, docket.right(0, 8) + 1);
        Check.same("at the end", docket.user(0, 4), 1);
        Check.same("users", docket.right(0, 10), 1);
    }

    private static void protectionStays() {
        FeeDocket docket = Dockets.withRights(false);
        Dockets.passTo(docket, 600);
        docket.use(0, 4);
        docket.pass(1);
        docket.revive(0);
        Dockets.passTo(docket, 913);
        Check.same("lapsed again", docket.right(0, 7), 1);
        Check.same("still protected", docket.user(0, 4), 2);
        docket.use(0, 5);
        docket.pass(1);
        docket.revive(0);
        Check.same("still protected", docket.user(0, 4), 2);
        Check.same("the second one, too", docket.user(0, 5), 2);
        Dockets.passTo(docket, docket.right(0, 8) + 1);
        Check.same("at the end", docket.right(0, 11), 2);
    }

    // "A user begins at most once with each right."
    private static void usersBeginOnce() {
        FeeDocket docket = Dockets.withRights(false);
        Dockets.passTo(docket, 600);
        docket.use(0, 4);
        Check.badState("on the same day", () -> docket.use(0, 4));
        docket.pass(1);
        Check.badState("the day behind it", () -> docket.use(0, 4));
        docket.revive(0);
        Dockets.passTo(docket, 913);
        Check.badState("when it is lapsed again", () -> docket.use(0, 4));
        Check.same("another one", docket.use(0, 3), 2);
    }

    // A user of the day of the revival may not begin again in the next gap, and is not protected by it.
    private static void refusedUsersKeepTheirFirstDay() {
        FeeDocket docket = Dockets.withRights(false);
        Dockets.passTo(docket, 600);
        docket.use(0, 4);
        docket.revive(0);
        Dockets.passTo(docket, 950);
        Check.badState("again", () -> docket.use(0, 4));
        docket.pass(1);
        docket.revive(0);
        Check.same("not protected", docket.user(0, 4), 1);
    }

    private static void usersBeginWithEachRight() {
        FeeDocket docket = Dockets.withRights(false, true);
        Dockets.passTo(docket, 600);
        Check.same("with right 0", docket.use(0, 4), 1);
        Check.same("not with right 1", docket.user(1, 4), 0);
        Check.same("with right 1", docket.use(1, 4), 1);
        docket.pass(1);
        docket.revive(1);
        Check.same("protected with right 1", docket.user(1, 4), 2);
        Check.same("not with right 0", docket.user(0, 4), 1);
    }

    private static void stands(FeeDocket docket, int day, boolean due) {
        String on = "(0, " + day + ") on " + docket.value(0);
        Check.same("stood" + on, docket.stood(0, day), due);
        Check.same("covered" + on, docket.covered(0, day), due);
    }
}
