/** Dockets that are brought into a state that several tests need. */
final class Dockets {
    static final int END_OF_YEAR_49 = 18262;
    static final int END_OF_YEAR_75 = 27758;

    private Dockets() {
    }

    static FeeDocket withRights(boolean... small) {
        FeeDocket docket = new FeeDocket();
        for (boolean isSmall : small) {
            docket.file(isSmall);
        }
        return docket;
    }

    static FeeDocket withTenRights() {
        return withRights(new boolean[10]);
    }

    static FeeDocket on(int day) {
        FeeDocket docket = new FeeDocket();
        passTo(docket, day);
        return docket;
    }

    static void passTo(FeeDocket docket, int day) {
        while (docket.value(0) < day) {
            docket.pass(Math.min(4000, day - docket.value(0)));
        }
    }

    static FeeDocket withRightOn(int day, boolean small) {
        FeeDocket docket = on(day);
        docket.file(small);
        return docket;
    }

    /** 1 to 6 January are holidays: a seventh is refused. */
    static FeeDocket withSixHolidays() {
        FeeDocket docket = new FeeDocket();
        for (int day = 1; day <= 6; day++) {
            docket.holiday(1, day);
        }
        return docket;
    }

    /** One right, filed on day 0, with its fees paid on their due days up to this year. */
    static FeeDocket paidUpTo(int year) {
        FeeDocket docket = withRights(false);
        for (int paid = 1; paid <= year; paid++) {
            passTo(docket, docket.due(0, paid, false));
            docket.pay(0);
        }
        return docket;
    }

    static FeeDocket withText(String text) {
        FeeDocket docket = new FeeDocket();
        write(docket, text);
        return docket;
    }

    static void write(FeeDocket docket, String text) {
        for (int i = 0; i < text.length(); i++) {
            docket.append(text.charAt(i));
        }
    }

    /**
     * On day 601, with something of all: holidays, fees of its own, accounts, four saved states and a text. Right 0 was
     * revived today (user 3 is protected, user 4 is not), right 1 is lapsed (users 3 and 9), right 2 is in its grace,
     * and the fee of right 3 was paid ahead.
     */
    static FeeDocket busy() {
        FeeDocket docket = new FeeDocket();
        docket.holiday(1, 1);
        docket.holiday(1, 31);
        docket.setFees(101, 21, 33, 250);
        docket.file(false);
        docket.pass(10);
        docket.file(true);
        docket.pass(190);
        docket.file(false);
        docket.pass(100);
        docket.file(true);
        docket.pass(300);
        docket.use(0, 3);
        docket.pass(1);
        docket.use(0, 4);
        docket.use(1, 3);
        docket.revive(0);
        docket.pay(3);
        docket.use(1, 9);
        write(docket, "1-2-3s;");
        return docket;
    }
}
