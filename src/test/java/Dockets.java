/** Dockets that are brought into a state that several tests need. */
final class Dockets {
    private Dockets() {
    }

    static FeeDocket withRights(boolean... small) {
        FeeDocket docket = new FeeDocket();
        for (boolean isSmall : small) {
            docket.file(isSmall);
        }
        return docket;
    }

    static void passTo(FeeDocket docket, int day) {
        while (docket.value(0) < day) {
            docket.pass(Math.min(4000, day - docket.value(0)));
        }
    }

    static FeeDocket withRightOn(int day, boolean small) {
        FeeDocket docket = new FeeDocket();
        passTo(docket, day);
        docket.file(small);
        return docket;
    }

    static FeeDocket withText(String text) {
        FeeDocket docket = new FeeDocket();
        write(docket, text);
        return docket;
    }

    static void write(FeeDocket docket, String text) {
        for (int i = 0; i < text.length(); i++) {
            docket.append(text.charAt(i));
        }
    }
}
