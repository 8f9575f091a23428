import java.util.function.Consumer;

/** Promises 11, 12, 16, 17, 18 and 23: revivals, users, and what stood on which day. */
public final class EdgesRevivalTest {
    public static void main(String[] args) {
        reviveTakesTheFirstAndTheLastRight();
        reviveTellsWhatIsPaid();
        reviveAddsToWhatWasPaid();
        reviveRefusesOtherRights();
        reviveRefusesStandingRights();
        reviveRefusesTooLate();
        reviveRefusesBehindTheLastDay();
        reviveIsUndoable();
        useTakesTheFirstAndTheLast();
        useRefusesOtherRights();
        useRefusesOtherUsers();
        useRefusesStandingRights();
        useRefusesBehindTheLastDay();
        useRefusesWhoBegan();
        useIsUndoable();
        stoodTakesDaysUpToToday();
        stoodRefusesOtherRights();
        stoodRefusesOtherDays();
        stoodFromTheFilingToTheLastDay();
        stoodByWhatIsKnownToday();
        stoodIsNotGivenBack();
        stoodWhenNoFeeIsLeft();
        coveredFromTheFilingToTheLastDay();
        coveredAsLongAsTheGraceGoesOn();
        coveredByPaymentsInTheGrace();
        coveredByLatePayments();
        coveredByTwoLatePayments();
        coveredWhenNoFeeIsLeft();
        stoodAndCoveredAgree();
        userTellsThreeValues();
        userRefusesOtherRights();
        userRefusesOtherUsers();
        shareOfTheFirstDays();
        shareOfALapse();
        shareOfAGap();
        shareOfTheWholeLife();
        shareOfTenRights();
        shareRefusesOtherRights();
        Check.done("EdgesRevivalTest");
    }

    // Promise 11: "right: number of a right"
    private static void reviveTakesTheFirstAndTheLastRight() {
        FeeDocket docket = Dockets.withTenRights();
        docket.pass(548);
        Check.same("revive(9)", docket.revive(9), 480);
        Check.same("revive(0)", docket.revive(0), 480);
        for (int right = 0; right < 10; right++) {
            Check.same("lapsed " + right, docket.right(right, 7), right == 0 || right == 9 ? 0 : 1);
            Check.same("gaps of " + right, docket.right(right, 9), right == 0 || right == 9 ? 1 : 0);
        }
    }

    // "Returns what is paid."
    private static void reviveTellsWhatIsPaid() {
        FeeDocket docket = Dockets.busy();
        Check.same("61, 20 and 250", docket.revive(1), 331);
        Check.same("right(1, 12)", docket.right(1, 12), 331);
        Check.same("value(5)", docket.value(5), 122 + 40 + 250 + 61 + 331);
        Check.same("value(6)", docket.value(6), 60);
        Check.same("value(7)", docket.value(7), 500);
    }

    // Promise 14: "12 all that has been paid for it", by payments and revivals in turn
    private static void reviveAddsToWhatWasPaid() {
        FeeDocket docket = lapsing(366);
        docket.pay(0);
        Dockets.passTo(docket, 913);
        Check.same("year 2", docket.revive(0), 140 + 70 + 300);
        Check.same("right(0, 12)", docket.right(0, 12), 120 + 510);
        Dockets.passTo(docket, 1096);
        docket.pay(0);
        Check.same("right(0, 12)", docket.right(0, 12), 120 + 510 + 160);
        Dockets.passTo(docket, docket.due(0, 4, true) + 1);
        Check.same("year 4", docket.revive(0), 180 + 90 + 300);
        Check.same("right(0, 12)", docket.right(0, 12), 120 + 510 + 160 + 570);
        Check.same("value(5)", docket.value(5), 120 + 510 + 160 + 570);
        Check.same("value(7)", docket.value(7), 600);
    }

    // "Throws IndexOutOfBoundsException if there is no such right"
    private static void reviveRefusesOtherRights() {
        for (int right : new int[] {-1, 4, 9, 10, Integer.MIN_VALUE, Integer.MAX_VALUE}) {
            busyRefuses("revive(" + right + ")", Check.INDEX, docket -> docket.revive(right));
        }
        Check.refused("revive(0) of none", Check.INDEX, FeeDocket::new, docket -> docket.revive(0));
        Check.refused("revive(10) of ten", Check.INDEX, () -> {
            FeeDocket docket = Dockets.withTenRights();
            docket.pass(600);
            return docket;
        }, docket -> docket.revive(10));
    }

    // "Throws IllegalStateException if it is not lapsed"
    private static void reviveRefusesStandingRights() {
        busyRefuses("revive(0), revived today", Check.STATE, docket -> docket.revive(0));
        busyRefuses("revive(2), in its grace", Check.STATE, docket -> docket.revive(2));
        busyRefuses("revive(3), paid ahead", Check.STATE, docket -> docket.revive(3));
        Check.refused("on the last day of the grace", Check.STATE, () -> lapsing(547), docket -> docket.revive(0));
        Check.refused("all is paid", Check.STATE, () -> Dockets.paidUpTo(19), docket -> docket.revive(0));
        Check.same("behind the grace", lapsing(548).revive(0), 480);
    }

    // "... it is too late"
    private static void reviveRefusesTooLate() {
        Check.same("on the last day", lapsing(912).revive(0), 480);
        Check.refused("the day behind it", Check.STATE, () -> lapsing(913), docket -> docket.revive(0));
        Check.refused("years behind it", Check.STATE, () -> lapsing(7000), docket -> docket.revive(0));
    }

    // "... or today is behind its last day"
    private static void reviveRefusesBehindTheLastDay() {
        Check.same("on the last day", lapsedForYear19(7304).revive(0), 480 + 240 + 300);
        Check.refused("the day behind it", Check.STATE, () -> lapsedForYear19(7305), docket -> docket.revive(0));
        Check.refused("the last day of its time", Check.STATE, () -> lapsedForYear19(7486), docket -> docket.revive(0));
        Check.refused("behind its time, too", Check.STATE, () -> lapsedForYear19(7600), docket -> docket.revive(0));
        Check.refused("all is paid", Check.STATE, () -> {
            FeeDocket docket = Dockets.paidUpTo(19);
            Dockets.passTo(docket, 7305);
            return docket;
        }, docket -> docket.revive(0));
    }

    private static FeeDocket lapsedForYear19(int day) {
        FeeDocket docket = Dockets.paidUpTo(18);
        Dockets.passTo(docket, day);
        return docket;
    }

    private static void reviveIsUndoable() {
        FeeDocket docket = lapsing(600);
        docket.use(0, 2);
        docket.pass(1);
        docket.revive(0);
        docket.undo();
        Check.same("lapsed again", docket.right(0, 7), 1);
        Check.same("no gap", docket.right(0, 9), 0);
        Check.same("not protected", docket.user(0, 2), 1);
        Check.same("nothing is paid", docket.value(5), 0);
        Check.same("no surcharge", docket.value(6), 0);
        Check.same("no petition", docket.value(7), 0);
        Check.same("it does not stand", docket.stood(0, 601), false);
        Check.same("it can be revived", docket.revive(0), 480);
    }

    // Promise 12: "right: number of a right", "user: 0 to 9"
    private static void useTakesTheFirstAndTheLast() {
        FeeDocket docket = Dockets.withTenRights();
        docket.pass(548);
        Check.same("use(0, 0)", docket.use(0, 0), 1);
        Check.same("use(0, 9)", docket.use(0, 9), 2);
        Check.same("use(9, 0)", docket.use(9, 0), 1);
        Check.same("use(9, 9)", docket.use(9, 9), 2);
        Check.same("the others have none", docket.right(5, 10), 0);
        for (int user = 1; user < 9; user++) {
            Check.same("the number of users", docket.use(5, user), user);
        }
    }

    // "Throws IndexOutOfBoundsException if there is no such right"
    private static void useRefusesOtherRights() {
        for (int right : new int[] {-1, 4, 9, 10, Integer.MIN_VALUE, Integer.MAX_VALUE}) {
            busyRefuses("use(" + right + ", 0)", Check.INDEX, docket -> docket.use(right, 0));
            busyRefuses("use(" + right + ", 10)", Check.INDEX, docket -> docket.use(right, 10));
        }
        Check.refused("use(0, 0) of none", Check.INDEX, FeeDocket::new, docket -> docket.use(0, 0));
    }

    // "Throws IllegalArgumentException if user is out of range"
    private static void useRefusesOtherUsers() {
        for (int user : new int[] {-1, 10, Integer.MIN_VALUE, Integer.MAX_VALUE}) {
            busyRefuses("use(1, " + user + ")", Check.ARGUMENT, docket -> docket.use(1, user));
            busyRefuses("use(0, " + user + "), standing", Check.ARGUMENT, docket -> docket.use(0, user));
            Check.refused("use(0, " + user + ") at the end", Check.ARGUMENT, () -> lapsing(7305),
                docket -> docket.use(0, user));
        }
    }

    // "Throws IllegalStateException if the right stands today"
    private static void useRefusesStandingRights() {
        busyRefuses("use(0, 0), revived today", Check.STATE, docket -> docket.use(0, 0));
        busyRefuses("use(2, 0), in its grace", Check.STATE, docket -> docket.use(2, 0));
        Check.refused("on the day of filing", Check.STATE, () -> lapsing(0), docket -> docket.use(0, 0));
        Check.refused("on the last day of the grace", Check.STATE, () -> lapsing(547), docket -> docket.use(0, 0));
        Check.same("behind the grace", lapsing(548).use(0, 0), 1);
    }

    // "... today is behind its last day"
    private static void useRefusesBehindTheLastDay() {
        Check.same("on the last day", lapsing(7304).use(0, 0), 1);
        Check.refused("the day behind it", Check.STATE, () -> lapsing(7305), docket -> docket.use(0, 0));
        Check.refused("at the end of year 75", Check.STATE, () -> lapsing(27758), docket -> docket.use(0, 9));
    }

    // "... or the user began with it already"
    private static void useRefusesWhoBegan() {
        busyRefuses("use(1, 3), begun", Check.STATE, docket -> docket.use(1, 3));
        busyRefuses("use(0, 3), protected", Check.STATE, docket -> docket.use(0, 3));
        Check.same("user 4 began with right 0 alone", Dockets.busy().use(1, 4), 3);
        Check.refused("all ten began", Check.STATE, () -> {
            FeeDocket docket = lapsing(548);
            for (int user = 0; user < 10; user++) {
                docket.use(0, user);
            }
            return docket;
        }, docket -> docket.use(0, 9));
    }

    private static void useIsUndoable() {
        FeeDocket docket = lapsing(548);
        docket.use(0, 0);
        docket.use(0, 9);
        docket.undo();
        Check.same("one user", docket.right(0, 10), 1);
        Check.same("the first one", docket.user(0, 0), 1);
        Check.same("not the second one", docket.user(0, 9), 0);
        Check.same("who may begin", docket.use(0, 9), 2);
    }

    // Promise 16: "day: 0 up to today"
    private static void stoodTakesDaysUpToToday() {
        FeeDocket docket = Dockets.withRights(false);
        Check.same("stood(0, 0) on day 0", docket.stood(0, 0), true);
        Check.same("covered(0, 0) on day 0", docket.covered(0, 0), true);
        docket.pass(1);
        Check.same("today", docket.stood(0, 1), true);
        Check.same("covered today", docket.covered(0, 1), true);
        Dockets.passTo(docket, 27758);
        for (int day : new int[] {0, 366}) {
            both(docket, 0, day, true);
        }
        for (int day : new int[] {367, 27757, 27758}) {
            both(docket, 0, day, false);
        }
        FeeDocket ten = Dockets.withTenRights();
        both(ten, 9, 0, true);
    }

    // "Throws IndexOutOfBoundsException if there is no such right"
    private static void stoodRefusesOtherRights() {
        for (int right : new int[] {-1, 4, 10, Integer.MIN_VALUE, Integer.MAX_VALUE}) {
            busyRefuses("stood(" + right + ", 0)", Check.INDEX, docket -> docket.stood(right, 0));
            busyRefuses("stood(" + right + ", 602)", Check.INDEX, docket -> docket.stood(right, 602));
            busyRefuses("covered(" + right + ", 0)", Check.INDEX, docket -> docket.covered(right, 0));
            busyRefuses("covered(" + right + ", 602)", Check.INDEX, docket -> docket.covered(right, 602));
        }
        Check.refused("stood of none", Check.INDEX, FeeDocket::new, docket -> docket.stood(0, 0));
        Check.refused("covered of none", Check.INDEX, FeeDocket::new, docket -> docket.covered(0, 0));
    }

    // "Throws IllegalArgumentException if day is out of range"
    private static void stoodRefusesOtherDays() {
        for (int day : new int[] {-1, 602, 29219, Integer.MIN_VALUE, Integer.MAX_VALUE}) {
            busyRefuses("stood(0, " + day + ")", Check.ARGUMENT, docket -> docket.stood(0, day));
            busyRefuses("covered(0, " + day + ")", Check.ARGUMENT, docket -> docket.covered(0, day));
        }
        Check.refused("stood on day 1 on day 0", Check.ARGUMENT, () -> lapsing(0), docket -> docket.stood(0, 1));
        Check.refused("covered on day 1 on day 0", Check.ARGUMENT, () -> lapsing(0), docket -> docket.covered(0, 1));
    }

    // "from the filing to its last day"
    private static void stoodFromTheFilingToTheLastDay() {
        FeeDocket docket = Dockets.withRightOn(100, false);
        Check.same("ahead of the filing", docket.stood(0, 0), false);
        Check.same("the day ahead of it", docket.stood(0, 99), false);
        Check.same("on the filing", docket.stood(0, 100), true);
        FeeDocket old = Dockets.paidUpTo(19);
        Dockets.passTo(old, 7306);
        Check.same("on the last day", old.stood(0, 7304), true);
        Check.same("the day behind it", old.stood(0, 7305), false);
        Check.same("two days behind it", old.stood(0, 7306), false);
    }

    // "by what is known today": "and, if it is lapsed, not behind due() of the unpaid year"
    private static void stoodByWhatIsKnownToday() {
        FeeDocket docket = lapsing(547);
        Check.same("not yet lapsed", docket.stood(0, 367), true);
        docket.pass(1);
        Check.same("the due day", docket.stood(0, 366), true);
        Check.same("the day behind it", docket.stood(0, 367), false);
        Check.same("today", docket.stood(0, 548), false);
        docket.revive(0);
        Check.same("the gap stays", docket.stood(0, 547), false);
        Check.same("today again", docket.stood(0, 548), true);
        docket.undo();
        docket.undo();
        Check.same("the lapse undone", docket.stood(0, 367), true);
    }

    // Revived on day 912, in the grace of year 2: unpaid, that year's lapse takes the day of the revival, too.
    private static void stoodIsNotGivenBack() {
        FeeDocket docket = lapsing(912);
        docket.revive(0);
        both(docket, 0, 912, true);
        docket.pass(1);
        both(docket, 0, 366, true);
        both(docket, 0, 912, false);
        both(docket, 0, 913, false);
        Check.same("share without the day of the revival", docket.share(0), 367.0 / 914.0);
        docket.revive(0);
        Check.same("two gaps", docket.right(0, 9), 2);
        both(docket, 0, 912, false);
        both(docket, 0, 913, true);
        Check.same("share", docket.share(0), 368.0 / 914.0);
    }

    private static void stoodWhenNoFeeIsLeft() {
        FeeDocket docket = lapsedForYear19(7303);
        docket.revive(0);
        docket.pass(2);
        int due = docket.due(0, 19, false);
        both(docket, 0, due, true);
        both(docket, 0, due + 1, false);
        both(docket, 0, 7302, false);
        both(docket, 0, 7303, true);
        both(docket, 0, 7304, true);
        both(docket, 0, 7305, false);
    }

    // Promise 17: "a day is covered if it is from the filing to the last day"
    private static void coveredFromTheFilingToTheLastDay() {
        FeeDocket docket = Dockets.withRightOn(100, false);
        Check.same("the day ahead of the filing", docket.covered(0, 99), false);
        Check.same("on the filing", docket.covered(0, 100), true);
        FeeDocket old = Dockets.paidUpTo(19);
        Dockets.passTo(old, 7305);
        Check.same("on the last day", old.covered(0, 7304), true);
        Check.same("the day behind it", old.covered(0, 7305), false);
    }

    // "(which does not matter as long as today is not behind grace() of that year ...)"
    private static void coveredAsLongAsTheGraceGoesOn() {
        FeeDocket docket = lapsing(547);
        Check.same("behind due(1), on grace(1)", docket.covered(0, 367), true);
        Check.same("today", docket.covered(0, 547), true);
        docket.pass(1);
        Check.same("on due(1), behind grace(1)", docket.covered(0, 366), true);
        Check.same("behind due(1), behind grace(1)", docket.covered(0, 367), false);
    }

    // A payment on or ahead of grace(k) leaves no day uncovered.
    private static void coveredByPaymentsInTheGrace() {
        for (int payment : new int[] {276, 366, 367, 546, 547}) {
            FeeDocket docket = lapsing(payment);
            docket.pay(0);
            Dockets.passTo(docket, 600);
            for (int day : new int[] {365, 366, 367, 400, 546, 547, 548}) {
                both(docket, 0, day, true);
            }
        }
    }

    // "for each paid year k that was paid behind grace(k), it is not both behind due(k) and before ... that payment"
    private static void coveredByLatePayments() {
        for (int payment : new int[] {548, 549, 700, 911, 912}) {
            FeeDocket docket = lapsing(payment);
            docket.revive(0);
            Check.same("on due(1)", docket.covered(0, 366), true);
            Check.same("behind due(1)", docket.covered(0, 367), false);
            Check.same("before the payment", docket.covered(0, payment - 1), false);
            Check.same("on the payment", docket.covered(0, payment), true);
        }
    }

    private static void coveredByTwoLatePayments() {
        FeeDocket docket = Dockets.withRightOn(5, false);
        Dockets.passTo(docket, 918);
        docket.revive(0);
        docket.pass(1);
        for (int day : new int[] {5, 371, 918, 919}) {
            both(docket, 0, day, true);
        }
        for (int day : new int[] {4, 372, 736, 737, 917}) {
            both(docket, 0, day, false);
        }
    }

    // "or if no fee is left"
    private static void coveredWhenNoFeeIsLeft() {
        FeeDocket docket = Dockets.paidUpTo(19);
        Dockets.passTo(docket, 7304);
        for (int day : new int[] {0, 366, 367, docket.due(0, 19, false) + 1, docket.due(0, 19, true) + 1, 7304}) {
            both(docket, 0, day, true);
        }
    }

    // "Tells the same by the payments alone": all days of a life with two gaps, one of them of two years
    private static void stoodAndCoveredAgree() {
        for (int first = 0; first <= 1500; first += 100) {
            FeeDocket docket = Dockets.withRightOn(5, true);
            Dockets.passTo(docket, 918);
            docket.revive(0);
            Dockets.passTo(docket, 1450);
            docket.revive(0);
            docket.pass(50);
            for (int day = first; day < first + 100 && day <= 1500; day++) {
                int third = docket.due(0, 3, false);
                boolean due = day >= 5 && day <= 371 || day >= 918 && day <= third || day >= 1450;
                both(docket, 0, day, due);
            }
        }
    }

    // Promise 18: "Returns 0 not begun, 1 begun, 2 protected."
    private static void userTellsThreeValues() {
        FeeDocket docket = Dockets.busy();
        int[] ofRight0 = {0, 0, 0, 2, 1, 0, 0, 0, 0, 0};
        int[] ofRight1 = {0, 0, 0, 1, 0, 0, 0, 0, 0, 1};
        for (int user = 0; user < 10; user++) {
            Check.same("user(0, " + user + ")", docket.user(0, user), ofRight0[user]);
            Check.same("user(1, " + user + ")", docket.user(1, user), ofRight1[user]);
            Check.same("user(3, " + user + ")", docket.user(3, user), 0);
        }
    }

    // "Throws IndexOutOfBoundsException if there is no such right"
    private static void userRefusesOtherRights() {
        for (int right : new int[] {-1, 4, 10, Integer.MIN_VALUE, Integer.MAX_VALUE}) {
            busyRefuses("user(" + right + ", 0)", Check.INDEX, docket -> docket.user(right, 0));
            busyRefuses("user(" + right + ", 10)", Check.INDEX, docket -> docket.user(right, 10));
        }
        Check.refused("user(0, 0) of none", Check.INDEX, FeeDocket::new, docket -> docket.user(0, 0));
        Check.same("user(9, 9) of ten", Dockets.withTenRights().user(9, 9), 0);
    }

    // "Throws IllegalArgumentException if user is out of range"
    private static void userRefusesOtherUsers() {
        for (int user : new int[] {-1, 10, Integer.MIN_VALUE, Integer.MAX_VALUE}) {
            busyRefuses("user(0, " + user + ")", Check.ARGUMENT, docket -> docket.user(0, user));
        }
    }

    // Promise 23: "the number of days from the filing to today"
    private static void shareOfTheFirstDays() {
        FeeDocket docket = Dockets.withRightOn(18262, false);
        Check.same("on the day of filing", docket.share(0), 1.0);
        docket.pass(1);
        Check.same("a day later", docket.share(0), 1.0);
        FeeDocket grace = lapsing(547);
        Check.same("on the last day of the grace", grace.share(0), 1.0);
    }

    private static void shareOfALapse() {
        FeeDocket docket = lapsing(548);
        Check.same("days 0 to 366 of 549", docket.share(0), 367.0 / 549.0);
        docket.pass(1);
        Check.same("days 0 to 366 of 550", docket.share(0), 367.0 / 550.0);
        FeeDocket filed = Dockets.withRightOn(100, false);
        int due = filed.due(0, 1, false);
        Dockets.passTo(filed, filed.due(0, 1, true) + 1);
        Check.same("from the filing on", filed.share(0), (due - 99.0) / (filed.value(0) - 99.0));
    }

    private static void shareOfAGap() {
        FeeDocket docket = lapsing(600);
        docket.revive(0);
        Check.same("on the day of the revival", docket.share(0), 368.0 / 601.0);
        docket.pass(1);
        Check.same("a day later", docket.share(0), 369.0 / 602.0);
        Dockets.passTo(docket, 913);
        Check.same("lapsed again", docket.share(0), (367.0 + 132.0) / 914.0);
        docket.revive(0);
        Check.same("revived again", docket.share(0), (367.0 + 132.0 + 1.0) / 914.0);
        FeeDocket two = Dockets.withRightOn(5, false);
        Dockets.passTo(two, 918);
        two.revive(0);
        Check.same("a gap of two years", two.share(0), 368.0 / 914.0);
    }

    // "or to its last day"
    private static void shareOfTheWholeLife() {
        FeeDocket paid = Dockets.paidUpTo(19);
        Dockets.passTo(paid, 7304);
        Check.same("on the last day", paid.share(0), 1.0);
        paid.pass(1);
        Check.same("the day behind it", paid.share(0), 1.0);
        Dockets.passTo(paid, 27758);
        Check.same("at the end of year 75", paid.share(0), 1.0);
        FeeDocket lapsed = lapsing(7304);
        Check.same("lapsed, on the last day", lapsed.share(0), 367.0 / 7305.0);
        lapsed.pass(1);
        Check.same("lapsed, the day behind it", lapsed.share(0), 367.0 / 7305.0);
        FeeDocket revived = lapsedForYear19(7304);
        revived.revive(0);
        revived.pass(1);
        int due = revived.due(0, 19, false);
        Check.same("revived on the last day", revived.share(0), (due + 2.0) / 7305.0);
    }

    private static void shareOfTenRights() {
        FeeDocket docket = new FeeDocket();
        for (int right = 0; right < 10; right++) {
            docket.file(false);
            docket.pass(1);
        }
        Dockets.passTo(docket, 1000);
        for (int right = 0; right < 10; right++) {
            int stood = docket.due(right, 1, false) - right + 1;
            Check.same("share(" + right + ")", docket.share(right), stood / (1001.0 - right));
        }
    }

    // "Throws IndexOutOfBoundsException if there is no such right"
    private static void shareRefusesOtherRights() {
        for (int right : new int[] {-1, 4, 10, Integer.MIN_VALUE, Integer.MAX_VALUE}) {
            busyRefuses("share(" + right + ")", Check.INDEX, docket -> docket.share(right));
        }
        Check.refused("share(0) of none", Check.INDEX, FeeDocket::new, docket -> docket.share(0));
        Check.refused("share(10) of ten", Check.INDEX, Dockets::withTenRights, docket -> docket.share(10));
    }

    /** One right, filed on day 0 and never paid. */
    private static FeeDocket lapsing(int day) {
        FeeDocket docket = Dockets.withRights(false);
        Dockets.passTo(docket, day);
        return docket;
    }

    private static void both(FeeDocket docket, int right, int day, boolean due) {
        String on = "(" + right + ", " + day + ") on " + docket.value(0);
        Check.same("stood" + on, docket.stood(right, day), due);
        Check.same("covered" + on, docket.covered(right, day), due);
    }

    private static void busyRefuses(String call, String exception, Consumer<FeeDocket> body) {
        Check.refused(call, exception, Dockets::busy, body);
    }
}
