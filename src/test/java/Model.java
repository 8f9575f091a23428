import java.util.ArrayDeque;
import java.util.ArrayList;
import java.util.HashMap;
import java.util.List;
import java.util.Map;
import java.util.TreeMap;
import java.util.TreeSet;

/**
 * A second docket, made day by day from the document's words, to compare the program with.
 * It passes each day singly, keeps what stands as events, and counts days instead of reckoning them.
 */
final class Model {
    static final int[] DATES = new int[29220];
    static final Map<Integer, Integer> DAYS = new HashMap<>();

    static {
        int[] lengths = {31, 28, 31, 30, 31, 30, 31, 31, 30, 31, 30, 31};
        int number = 0;
        for (int year = 0; year < 80; year++) {
            for (int month = 1; month <= 12; month++) {
                for (int day = 1; day <= lengths[month - 1] + (month == 2 && year % 4 == 0 ? 1 : 0); day++) {
                    DATES[number] = 10000 * year + 100 * month + day;
                    DAYS.put(DATES[number], number++);
                }
            }
        }
    }

    static final class Right {
        int filed;
        boolean small;
        boolean lapsed;
        int paid;
        List<Integer> payments = new ArrayList<>();
        List<int[]> gaps = new ArrayList<>();
        TreeMap<Integer, Integer> begun = new TreeMap<>();
        TreeSet<Integer> safe = new TreeSet<>();

        Right copy() {
            Right copy = new Right();
            copy.filed = filed;
            copy.small = small;
            copy.lapsed = lapsed;
            copy.paid = paid;
            copy.payments.addAll(payments);
            copy.gaps.addAll(gaps);
            copy.begun.putAll(begun);
            copy.safe.addAll(safe);
            return copy;
        }

        int next() {
            return payments.size() == 19 ? -1 : payments.size() + 1;
        }

        int last() {
            return months(filed, 240) - 1;
        }
    }

    static final class State {
        int today = 0;
        int paid = 0;
        int surcharges = 0;
        int petitions = 0;
        int[] fees = {100, 20, 50, 300};
        TreeSet<Integer> holidays = new TreeSet<>();
        List<Right> rights = new ArrayList<>();

        State copy() {
            State copy = new State();
            copy.today = today;
            copy.paid = paid;
            copy.surcharges = surcharges;
            copy.petitions = petitions;
            copy.fees = fees.clone();
            copy.holidays.addAll(holidays);
            for (Right right : rights) {
                copy.rights.add(right.copy());
            }
            return copy;
        }
    }

    State state = new State();
    ArrayDeque<State> saved = new ArrayDeque<>();
    String text = "";

    static int months(int day, int months) {
        int date = DATES[day];
        int total = 12 * (date / 10000) + date / 100 % 100 - 1 + months;
        int month = total % 12 + 1;
        int year = total / 12;
        int dayOfMonth = date % 100;
        while (!DAYS.containsKey(10000 * year + 100 * month + dayOfMonth)) {
            dayOfMonth--;
        }
        return DAYS.get(10000 * year + 100 * month + dayOfMonth);
    }

    int off(int day) {
        int working = day;
        while (working % 7 == 5 || working % 7 == 6 || state.holidays.contains(DATES[working] % 10000)) {
            working++;
        }
        return working;
    }

    int due(Right right, int year) {
        return off(months(right.filed, 12 * year));
    }

    int grace(Right right, int year) {
        return off(months(right.filed, 12 * year + 6));
    }

    private int fee(Right right, int year) {
        int fee = state.fees[0] + state.fees[1] * year;
        return right.small ? fee / 2 + fee % 2 : fee;
    }

    private int surcharge(Right right, int year) {
        return state.today > due(right, year) ? state.fees[2] * fee(right, year) / 100 : 0;
    }

    private static void bad(boolean is) {
        if (is) {
            throw new IllegalArgumentException();
        }
    }

    private static void wrong(boolean is) {
        if (is) {
            throw new IllegalStateException();
        }
    }

    private Right get(int right) {
        if (right < 0 || right >= state.rights.size()) {
            throw new IndexOutOfBoundsException();
        }
        return state.rights.get(right);
    }

    private void save() {
        saved.addLast(state.copy());
        if (saved.size() > 4) {
            saved.removeFirst();
        }
    }

    int holiday(int month, int day) {
        bad(month < 1 || month > 12 || day < 1 || !DAYS.containsKey(100 * month + day));
        int code = 100 * month + day;
        wrong(!state.rights.isEmpty() || !state.holidays.contains(code) && state.holidays.size() == 6);
        save();
        if (!state.holidays.remove(code)) {
            state.holidays.add(code);
        }
        return state.holidays.size();
    }

    int file(boolean small) {
        wrong(state.rights.size() == 10 || DATES[state.today] / 10000 > 49);
        save();
        Right right = new Right();
        right.filed = state.today;
        right.small = small;
        state.rights.add(right);
        return state.rights.size() - 1;
    }

    int pass(int days) {
        bad(days < 1 || days > 4000);
        wrong(DATES[Math.min(29219, state.today + days)] / 10000 > 75 || state.today + days > 29219);
        save();
        return passDays(days);
    }

    private int passDays(int days) {
        int[] behind = new int[state.rights.size()];
        for (int i = 0; i < behind.length; i++) {
            Right right = state.rights.get(i);
            behind[i] = right.lapsed || right.next() == -1 ? -1 : grace(right, right.next()) + 1;
        }
        int lapses = 0;
        for (int i = 0; i < days; i++) {
            state.today++;
            for (int k = 0; k < behind.length; k++) {
                if (behind[k] == state.today) {
                    state.rights.get(k).lapsed = true;
                    lapses++;
                }
            }
        }
        return lapses;
    }

    private boolean payable(Right right) {
        return !right.lapsed && right.next() != -1 && due(right, right.next()) - state.today <= 90;
    }

    private int payYear(Right right) {
        int year = right.next();
        int extra = surcharge(right, year);
        int sum = fee(right, year) + extra;
        right.paid += sum;
        state.paid += sum;
        state.surcharges += extra;
        right.payments.add(state.today);
        return sum;
    }

    int pay(int number) {
        Right right = get(number);
        wrong(!payable(right));
        save();
        return payYear(right);
    }

    int payAll() {
        save();
        int sum = 0;
        for (Right right : state.rights) {
            sum += payable(right) ? payYear(right) : 0;
        }
        return sum;
    }

    int revive(int number) {
        Right right = get(number);
        wrong(!right.lapsed);
        int year = right.next();
        wrong(state.today > off(months(grace(right, year), 12)) || state.today > right.last());
        save();
        int[] gap = {due(right, year) + 1, state.today - 1};
        right.gaps.add(gap);
        for (Map.Entry<Integer, Integer> user : right.begun.entrySet()) {
            if (user.getValue() >= gap[0] && user.getValue() <= gap[1]) {
                right.safe.add(user.getKey());
            }
        }
        int petition = state.fees[3];
        state.paid += petition;
        state.petitions += petition;
        right.paid += petition;
        int sum = petition + payYear(right);
        while (right.next() != -1 && grace(right, right.next()) < state.today) {
            sum += payYear(right);
        }
        right.lapsed = false;
        return sum;
    }

    int use(int number, int user) {
        Right right = get(number);
        bad(user < 0 || user > 9);
        wrong(!right.lapsed || state.today > right.last() || right.begun.containsKey(user));
        save();
        right.begun.put(user, state.today);
        return right.begun.size();
    }

    int setFees(int base, int step, int percent, int petition) {
        bad(base < 0 || base > 9999 || step < 0 || step > 999);
        bad(percent < 0 || percent > 100 || petition < 0 || petition > 9999);
        save();
        int before = state.fees[0];
        state.fees = new int[] {base, step, percent, petition};
        return before;
    }

    int right(int number, int what) {
        Right right = get(number);
        bad(what < 0 || what > 12);
        int next = right.next();
        int[] values = {right.filed, right.small ? 1 : 0, right.payments.size(), next,
            next == -1 ? -1 : due(right, next), next == -1 ? -1 : grace(right, next),
            next == -1 ? 0 : fee(right, next) + surcharge(right, next), right.lapsed ? 1 : 0, right.last(),
            right.gaps.size(), right.begun.size(), right.safe.size(), right.paid};
        return values[what];
    }

    int dueDay(int number, int year, boolean grace) {
        Right right = get(number);
        bad(year < 1 || year > 19);
        return grace ? grace(right, year) : due(right, year);
    }

    private boolean stands(Right right, int day) {
        boolean stands = day >= right.filed && day <= right.last();
        for (int[] gap : right.gaps) {
            stands = stands && (day < gap[0] || day > gap[1]);
        }
        return stands && !(right.lapsed && day > due(right, right.next()));
    }

    boolean stood(int number, int day) {
        Right right = get(number);
        bad(day < 0 || day > state.today);
        return stands(right, day);
    }

    /** By the days of the payments alone: neither the gaps nor the lapse are asked. */
    boolean covered(int number, int day) {
        Right right = get(number);
        bad(day < 0 || day > state.today);
        int unpaid = right.next();
        if (unpaid != -1 && state.today > grace(right, unpaid) && day > due(right, unpaid)) {
            return false;
        }
        for (int year = 1; year <= right.payments.size(); year++) {
            int payment = right.payments.get(year - 1);
            if (payment > grace(right, year) && day > due(right, year) && day < payment) {
                return false;
            }
        }
        return day >= right.filed && day <= right.last();
    }

    int user(int number, int user) {
        Right right = get(number);
        bad(user < 0 || user > 9);
        return right.safe.contains(user) ? 2 : right.begun.containsKey(user) ? 1 : 0;
    }

    int value(int what) {
        bad(what < 0 || what > 11);
        int standing = 0;
        int lapsed = 0;
        for (Right right : state.rights) {
            standing += !right.lapsed && state.today <= right.last() ? 1 : 0;
            lapsed += right.lapsed ? 1 : 0;
        }
        int[] values = {state.today, state.rights.size(), standing, lapsed, state.holidays.size(), state.paid,
            state.surcharges, state.petitions, state.fees[0], state.fees[1], state.fees[2], state.fees[3]};
        return values[what];
    }

    int nextDue() {
        int best = -1;
        for (int i = state.rights.size() - 1; i >= 0; i--) {
            Right right = state.rights.get(i);
            if (right.next() != -1 && !right.lapsed) {
                Right other = best == -1 ? null : state.rights.get(best);
                if (other == null || due(right, right.next()) <= due(other, other.next())) {
                    best = i;
                }
            }
        }
        return best;
    }

    int costs(int days) {
        bad(days < 0 || days > 4000);
        int sum = 0;
        for (Right right : state.rights) {
            for (int year = right.payments.size() + 1; year <= 19 && !right.lapsed; year++) {
                if (due(right, year) <= state.today + days) {
                    sum += fee(right, year) + surcharge(right, year);
                }
            }
        }
        return sum;
    }

    /** Forecasts by trying: the days pass on a copy. */
    int lapsing(int days) {
        bad(days < 0 || days > 4000);
        Model tried = new Model();
        tried.state = state.copy();
        return tried.passDays(days);
    }

    double share(int number) {
        Right right = get(number);
        int last = Math.min(right.last(), state.today);
        double stood = 0;
        double all = 0;
        for (int day = right.filed; day <= last; day++) {
            all++;
            stood += stands(right, day) ? 1 : 0;
        }
        return stood / all;
    }

    int append(int value) {
        bad(value < 0 || value > 127);
        wrong(text.length() == 100);
        text += (char) value;
        return text.length();
    }

    int clearText() {
        int length = text.length();
        text = "";
        return length;
    }

    int parse() {
        List<Right> read = new ArrayList<>();
        int answer = readText(text, read);
        if (answer < 0) {
            return answer;
        }
        save();
        state.rights = read;
        state.paid = 0;
        state.surcharges = 0;
        state.petitions = 0;
        for (int i = 0; i < read.size(); i++) {
            state.today = i == 0 ? read.get(i).filed : Math.max(state.today, read.get(i).filed);
        }
        for (Right right : read) {
            right.lapsed = grace(right, 1) < state.today;
        }
        return read.size();
    }

    /** Reads byte by byte: field 0 to 2 with its digits so far, 3 behind the "s". */
    static int readText(String text, List<Right> read) {
        int count = 0;
        int field = 0;
        String digits = "";
        int[] numbers = new int[3];
        for (int i = 0; i <= text.length(); i++) {
            int sign = i == text.length() ? -1 : text.charAt(i);
            boolean isDigit = sign >= 48 && sign <= 57;
            if (field == 0 && digits.isEmpty() && sign == -1) {
                return count;
            }
            if (field == 0 && digits.isEmpty() && count == 10) {
                return -10 - i;
            }
            if (isDigit) {
                if (field == 3 || digits.length() == 2) {
                    return -10 - i;
                }
                digits += (char) sign;
                continue;
            }
            if (field < 3) {
                if (digits.isEmpty()) {
                    return -10 - i;
                }
                numbers[field] = Integer.parseInt(digits);
                if (!stands(numbers, field)) {
                    return -10 - (i - digits.length());
                }
            }
            if (field < 2 && sign == '-') {
                field++;
                digits = "";
            } else if (field == 2 && sign == 's') {
                field = 3;
            } else if (field >= 2 && sign == ';') {
                count++;
                addTo(read, numbers, field == 3);
                field = 0;
                digits = "";
            } else {
                return -10 - i;
            }
        }
        return count;
    }

    private static boolean stands(int[] numbers, int field) {
        if (field == 0) {
            return numbers[0] <= 49;
        }
        if (field == 1) {
            return numbers[1] >= 1 && numbers[1] <= 12;
        }
        return DAYS.containsKey(10000 * numbers[0] + 100 * numbers[1] + numbers[2]) && numbers[2] > 0;
    }

    private static void addTo(List<Right> read, int[] numbers, boolean small) {
        if (read != null) {
            Right right = new Right();
            right.filed = DAYS.get(10000 * numbers[0] + 100 * numbers[1] + numbers[2]);
            right.small = small;
            read.add(right);
        }
    }

    int undo() {
        wrong(saved.isEmpty());
        state = saved.removeLast();
        return saved.size();
    }

    long digest() {
        long hash = 31L * 3469 + text.length();
        for (int what = 0; what <= 11; what++) {
            hash = 31 * hash + value(what);
        }
        hash = 31 * hash + DATES[state.today];
        for (int i = 0; i < state.rights.size(); i++) {
            for (int what = 0; what <= 12; what++) {
                hash = 31 * hash + right(i, what);
            }
            for (int user = 0; user <= 9; user++) {
                hash = 31 * hash + user(i, user);
            }
            hash = 31 * hash + (stands(get(i), state.today) ? 1 : 0);
        }
        hash = 31 * hash + nextDue();
        return 31 * hash + saved.size();
    }
}
