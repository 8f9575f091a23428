import java.util.Random;

/** Long runs of calls, drawn with fixed seeds, on the program and on the model: all answers agree. */
public final class ModelTest {
    private static final int RUNS = 1000;
    private static final int CALLS = 512;

    private interface Call {
        Object answer();
    }

    private final Random random;
    private final String run;
    private final FeeDocket docket = new FeeDocket();
    private final Model model = new Model();
    private int calls = 0;

    private ModelTest(int seed) {
        random = new Random(seed);
        run = "run " + seed + ": ";
    }

    public static void main(String[] args) {
        for (int seed = 1; seed <= RUNS; seed++) {
            new ModelTest(seed).play();
        }
        Check.done("ModelTest");
    }

    private void play() {
        for (int i = random.nextInt(8); i > 0; i--) {
            holiday();
        }
        for (int i = 1; calls < CALLS; i++) {
            change();
            if (i % 10 == 0) {
                ask();
            }
        }
    }

    private void change() {
        int drawn = random.nextInt(100);
        if (drawn < 8) {
            boolean small = random.nextBoolean();
            agree("file", () -> docket.file(small), () -> model.file(small));
        } else if (drawn < 40) {
            int days = someDays();
            agree("pass(" + days + ")", () -> docket.pass(days), () -> model.pass(days));
        } else if (drawn < 52) {
            int right = someRight();
            agree("pay(" + right + ")", () -> docket.pay(right), () -> model.pay(right));
        } else if (drawn < 60) {
            agree("payAll", docket::payAll, model::payAll);
        } else if (drawn < 72) {
            int right = someRight();
            agree("revive(" + right + ")", () -> docket.revive(right), () -> model.revive(right));
        } else if (drawn < 82) {
            int right = someRight();
            int user = some(10);
            agree("use(" + right + ", " + user + ")", () -> docket.use(right, user), () -> model.use(right, user));
        } else if (drawn < 85) {
            setFees();
        } else if (drawn < 87) {
            holiday();
        } else if (drawn < 90) {
            text();
        } else if (drawn < 96) {
            agree("undo", docket::undo, model::undo);
        } else {
            ask();
        }
    }

    private void setFees() {
        int base = random.nextInt(4) == 0 ? some(10000) : random.nextInt(300);
        int step = some(random.nextBoolean() ? 1000 : 30);
        int percent = some(101);
        int petition = some(10000);
        agree("setFees", () -> docket.setFees(base, step, percent, petition),
            () -> model.setFees(base, step, percent, petition));
    }

    private void holiday() {
        // Most of them close together, so that days are put off far.
        int month = random.nextInt(3) == 0 ? some(14) : 1 + random.nextInt(2);
        int day = random.nextInt(3) == 0 ? some(33) : 1 + random.nextInt(9);
        agree("holiday(" + month + ", " + day + ")", () -> docket.holiday(month, day),
            () -> model.holiday(month, day));
    }

    private void text() {
        if (random.nextInt(3) > 0) {
            agree("clearText", docket::clearText, model::clearText);
            StringBuilder text = new StringBuilder();
            int year = random.nextInt(50);
            for (int i = random.nextInt(4); i > 0; i--) {
                text.append(Math.min(49, year + random.nextInt(3))).append('-').append(1 + random.nextInt(12));
                text.append('-').append(1 + random.nextInt(28)).append(random.nextBoolean() ? "s;" : ";");
            }
            if (random.nextInt(3) == 0 && text.length() > 0) {
                text.setCharAt(random.nextInt(text.length()), "0123456789-;s x".charAt(random.nextInt(15)));
            }
            for (int i = 0; i < text.length(); i++) {
                int value = text.charAt(i);
                agree("append", () -> docket.append(value), () -> model.append(value));
            }
        }
        agree("parse of " + model.text, docket::parse, model::parse);
    }

    private void ask() {
        agree("digest", docket::digest, model::digest);
        agree("nextDue", docket::nextDue, model::nextDue);
        int days = some(random.nextBoolean() ? 4001 : 400);
        agree("costs(" + days + ")", () -> docket.costs(days), () -> model.costs(days));
        agree("lapsing(" + days + ")", () -> docket.lapsing(days), () -> model.lapsing(days));
        int day = some(18263);
        int months = some(301);
        agree("later", () -> docket.later(day, months), () -> Model.months(day, months), day, 18262, months, 300);
        agree("putOff", () -> docket.putOff(day), () -> model.off(day), day, 28854);
        int right = someRight();
        int what = some(13);
        agree("right", () -> docket.right(right, what), () -> model.right(right, what));
        agree("value", () -> docket.value(what), () -> model.value(what));
        int year = 1 + some(19);
        boolean grace = random.nextBoolean();
        agree("due", () -> docket.due(right, year, grace), () -> model.dueDay(right, year, grace));
        agree("share(" + right + ")", () -> docket.share(right), () -> model.share(right));
        int user = some(10);
        agree("user", () -> docket.user(right, user), () -> model.user(right, user));
        for (int i = 0; i < 6; i++) {
            int then = i < 3 ? some(model.value(0) + 1) : nearAnEdge(right);
            agree("stood(" + right + ", " + then + ")", () -> docket.stood(right, then),
                () -> model.stood(right, then));
            agree("covered(" + right + ", " + then + ")", () -> docket.covered(right, then),
                () -> model.covered(right, then));
        }
    }

    /** Asks only while each argument is from 0 to the bound behind it, and up to the 512th call. */
    private void agree(String call, Call got, Call due, int... argumentsAndBounds) {
        for (int i = 0; i < argumentsAndBounds.length; i += 2) {
            if (argumentsAndBounds[i] < 0 || argumentsAndBounds[i] > argumentsAndBounds[i + 1]) {
                return;
            }
        }
        if (calls == CALLS) {
            return;
        }
        calls++;
        Check.same(run + call, told(got), told(due));
    }

    private static String told(Call call) {
        try {
            return String.valueOf(call.answer());
        } catch (RuntimeException thrown) {
            return thrown.getClass().getSimpleName();
        }
    }

    /** Mostly 0 to bound - 1, now and then just outside. */
    private int some(int bound) {
        int drawn = random.nextInt(40);
        return drawn == 0 ? -1 : drawn == 1 ? bound : random.nextInt(bound);
    }

    private int someRight() {
        return some(Math.max(1, model.state.rights.size()));
    }

    /** Often to a day on which something changes, or one day aside. */
    private int someDays() {
        int drawn = random.nextInt(10);
        if (drawn == 0) {
            return some(4001);
        }
        if (drawn < 4 || model.state.rights.isEmpty()) {
            return 1 + random.nextInt(200);
        }
        Model.Right right = model.state.rights.get(random.nextInt(model.state.rights.size()));
        int year = right.next();
        int[] edges = {right.last(), right.last(), right.last(), right.last()};
        if (year != FeeDocket.NONE) {
            int grace = model.grace(right, year);
            edges = new int[] {model.due(right, year) - 90, model.due(right, year), grace,
                model.off(Model.months(grace, 12))};
        }
        int days = edges[random.nextInt(4)] + random.nextInt(4) - 1 - model.value(0);
        return days < 1 || days > 4000 ? 1 + random.nextInt(30) : days;
    }

    private int nearAnEdge(int number) {
        if (number < 0 || number >= model.state.rights.size()) {
            return 0;
        }
        Model.Right right = model.state.rights.get(number);
        int last = Math.max(1, right.payments.size());
        int year = 1 + random.nextInt(Math.min(19, last + 1));
        int edge = random.nextBoolean() ? model.due(right, year) : model.grace(right, year);
        if (!right.payments.isEmpty() && random.nextInt(3) == 0) {
            edge = right.payments.get(random.nextInt(right.payments.size()));
        }
        if (random.nextInt(8) == 0) {
            edge = random.nextBoolean() ? right.filed : right.last();
        }
        return edge + random.nextInt(3) - 1;
    }
}
