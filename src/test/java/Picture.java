/** All that a docket tells of its state, of its saved states and of its text; the docket is used up by it. */
final class Picture {
    private static final int MOST_DAYS = 4000;

    private final FeeDocket docket;
    private final StringBuilder told = new StringBuilder();

    private Picture(FeeDocket docket) {
        this.docket = docket;
    }

    static String of(FeeDocket docket) {
        Picture picture = new Picture(docket);
        picture.tellState();
        picture.tellRights();
        picture.tellSavedStates();
        picture.tellText();
        return picture.told.toString();
    }

    private void tell(Object answer) {
        told.append(answer).append(' ');
    }

    private void tellState() {
        tell("\nstate");
        tell(docket.digest());
        for (int what = 0; what <= 11; what++) {
            tell(docket.value(what));
        }
        // The holidays of the tests are days of January.
        for (int day = 0; day <= 31; day++) {
            tell(docket.putOff(day));
        }
        tell(docket.costs(0));
        tell(docket.costs(MOST_DAYS));
        tell(docket.lapsing(MOST_DAYS));
        tell(docket.nextDue());
    }

    private void tellRights() {
        int today = docket.value(0);
        for (int right = 0; right < docket.value(1); right++) {
            tell("\nright");
            tell(docket.share(right));
            int due = docket.due(right, 1, false);
            tell(due);
            tell(docket.due(right, 19, true));
            for (int day : new int[] {0, Math.min(due, today), Math.min(due + 1, today), today}) {
                tell(docket.stood(right, day));
                tell(docket.covered(right, day));
            }
        }
    }

    private void tellSavedStates() {
        while (Check.outcome(docket::undo).isEmpty()) {
            tell("\nsaved");
            tell(docket.digest());
            tell(docket.putOff(0));
            tell(docket.putOff(30));
            for (int right = 0; right < docket.value(1); right++) {
                tell(docket.share(right));
            }
        }
    }

    private void tellText() {
        tell("\ntext");
        tell(docket.parse());
        tell(docket.digest());
        tell(docket.clearText());
    }
}
