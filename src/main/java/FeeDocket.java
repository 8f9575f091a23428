import java.util.Arrays;

/** A docket of yearly fees that keep rights alive. ../shared/DOC.md says what each call promises. */
public final class FeeDocket {
    public static final int NONE = -1;

    private static final int MAX_RIGHTS = 10;
    private static final int MAX_HOLIDAYS = 6;
    private static final int MAX_TEXT = 100;
    private static final int MAX_SAVED = 4;
    private static final int USERS = 10;
    private static final int FEE_YEARS = 19;

    private static final int LAST_YEAR = 79;
    private static final int LAST_FILING_YEAR = 49;
    private static final int END_OF_YEAR_49 = 18262;
    private static final int END_OF_YEAR_75 = 27758;
    private static final int END_OF_YEAR_78 = 28854;
    private static final int END_OF_YEAR_79 = 29219;

    private static final int MOST_MONTHS = 300;
    private static final int MOST_DAYS = 4000;
    private static final int DAYS_AHEAD = 90;
    private static final int MOST_BASE = 9999;
    private static final int MOST_STEP = 999;
    private static final int MOST_PERCENT = 100;
    private static final int MOST_PETITION = 9999;

    private static final int RIGHT_VALUES = 13;
    private static final int DOCKET_VALUES = 12;

    private final State now = new State();
    private final State[] saved = new State[MAX_SAVED];
    private int savedCount = 0;
    private final Text text = new Text();

    public FeeDocket() {
        for (int i = 0; i < saved.length; i++) {
            saved[i] = new State();
        }
    }

    // ---- calendar

    public int date(int day) throws IllegalArgumentException {
        checkArgument(isWithin(day, 0, END_OF_YEAR_79));
        return Calendar.dateOf(day);
    }

    public int day(int year, int month, int day) throws IllegalArgumentException {
        checkArgument(isWithin(year, 0, LAST_YEAR));
        checkArgument(isWithin(month, 1, 12));
        checkArgument(isWithin(day, 1, Calendar.monthLength(year, month)));
        return Calendar.dayOf(year, month, day);
    }

    public int later(int day, int months) throws IllegalArgumentException {
        checkArgument(isWithin(day, 0, END_OF_YEAR_49));
        checkArgument(isWithin(months, 0, MOST_MONTHS));
        return Calendar.monthsAfter(day, months);
    }

    public int putOff(int day) throws IllegalArgumentException {
        checkArgument(isWithin(day, 0, END_OF_YEAR_78));
        return now.holidays.firstWorkingDay(day);
    }

    public int holiday(int month, int day) throws IllegalArgumentException, IllegalStateException {
        checkArgument(isWithin(month, 1, 12));
        // Year 0 has 366 days.
        checkArgument(isWithin(day, 1, Calendar.monthLength(0, month)));
        int monthAndDay = 100 * month + day;
        checkState(now.rightCount == 0 && now.holidays.canToggle(monthAndDay));
        save();
        now.holidays.toggle(monthAndDay);
        return now.holidays.count;
    }

    // ---- rights

    public int file(boolean small) throws IllegalStateException {
        checkState(now.rightCount < MAX_RIGHTS && now.today <= END_OF_YEAR_49);
        save();
        now.addRight(now.today, small);
        return now.rightCount - 1;
    }

    public int pass(int days) throws IllegalArgumentException, IllegalStateException {
        checkArgument(isWithin(days, 1, MOST_DAYS));
        checkState(now.today + days <= END_OF_YEAR_75);
        save();
        int lapses = now.lapsesWithin(days);
        now.today += days;
        return lapses;
    }

    public int pay(int right) throws IndexOutOfBoundsException, IllegalStateException {
        Right payer = existingRight(right);
        checkState(now.canPay(payer));
        save();
        return now.payNextFee(payer);
    }

    public int payAll() {
        save();
        return now.payAllFees();
    }

    public int revive(int right) throws IndexOutOfBoundsException, IllegalStateException {
        Right lapsed = existingRight(right);
        checkState(now.canRevive(lapsed));
        save();
        return now.reviveRight(lapsed);
    }

    public int use(int right, int user) throws IndexOutOfBoundsException, IllegalArgumentException, IllegalStateException {
        Right used = existingRight(right);
        checkArgument(isWithin(user, 0, USERS - 1));
        checkState(now.canUse(used, user));
        save();
        used.begin(user, now.today);
        return used.countUsers();
    }

    public int setFees(int base, int step, int percent, int petition) throws IllegalArgumentException {
        checkArgument(isWithin(base, 0, MOST_BASE));
        checkArgument(isWithin(step, 0, MOST_STEP));
        checkArgument(isWithin(percent, 0, MOST_PERCENT));
        checkArgument(isWithin(petition, 0, MOST_PETITION));
        save();
        int previousBase = now.fees.base;
        now.fees.set(base, step, percent, petition);
        return previousBase;
    }

    public int right(int right, int what) throws IndexOutOfBoundsException, IllegalArgumentException {
        Right asked = existingRight(right);
        checkArgument(isWithin(what, 0, RIGHT_VALUES - 1));
        return now.rightValue(asked, what);
    }

    public int due(int right, int year, boolean grace) throws IndexOutOfBoundsException, IllegalArgumentException {
        Right asked = existingRight(right);
        checkArgument(isWithin(year, 1, FEE_YEARS));
        return grace ? asked.graceOf(year) : asked.dueOf(year);
    }

    public boolean stood(int right, int day) throws IndexOutOfBoundsException, IllegalArgumentException {
        Right asked = existingRight(right);
        checkArgument(isWithin(day, 0, now.today));
        return asked.stoodOn(day, now.today);
    }

    public boolean covered(int right, int day) throws IndexOutOfBoundsException, IllegalArgumentException {
        Right asked = existingRight(right);
        checkArgument(isWithin(day, 0, now.today));
        return asked.paidForOn(day, now.today);
    }

    public int user(int right, int user) throws IndexOutOfBoundsException, IllegalArgumentException {
        Right asked = existingRight(right);
        checkArgument(isWithin(user, 0, USERS - 1));
        return asked.standingOfUser(user);
    }

    public int value(int what) throws IllegalArgumentException {
        checkArgument(isWithin(what, 0, DOCKET_VALUES - 1));
        return now.docketValue(what);
    }

    // ---- what if

    public int nextDue() {
        return now.rightDueFirst();
    }

    public int costs(int days) throws IllegalArgumentException {
        checkArgument(isWithin(days, 0, MOST_DAYS));
        return now.costsWithin(days);
    }

    public int lapsing(int days) throws IllegalArgumentException {
        checkArgument(isWithin(days, 0, MOST_DAYS));
        return now.lapsesWithin(days);
    }

    public double share(int right) throws IndexOutOfBoundsException {
        Right asked = existingRight(right);
        int lived = asked.daysLived(now.today);
        if (lived < 1) {
            return 0.0;
        }
        return (double) asked.daysStood(now.today) / (double) lived;
    }

    // ---- text

    public int append(int value) throws IllegalArgumentException, IllegalStateException {
        checkArgument(isWithin(value, 0, 127));
        checkState(text.length < MAX_TEXT);
        text.add(value);
        return text.length;
    }

    public int clearText() {
        int before = text.length;
        text.length = 0;
        return before;
    }

    public int parse() {
        int error = text.read();
        if (error != NONE) {
            return -10 - error;
        }
        save();
        now.takeRights(text);
        return now.rightCount;
    }

    // ---- state

    public int undo() throws IllegalStateException {
        checkState(savedCount > 0 && savedCount <= saved.length);
        savedCount--;
        now.copyFrom(saved[savedCount]);
        return savedCount;
    }

    public long digest() {
        long hash = mixed(3469, text.length);
        for (int what = 0; what < DOCKET_VALUES; what++) {
            hash = mixed(hash, now.docketValue(what));
        }
        hash = mixed(hash, Calendar.dateOf(now.today));
        for (int i = 0; i < now.rightCount && i < now.rights.length; i++) {
            hash = mixedWithRight(hash, now.rights[i]);
        }
        hash = mixed(hash, now.rightDueFirst());
        return mixed(hash, savedCount);
    }

    private long mixedWithRight(long before, Right right) {
        long hash = before;
        for (int what = 0; what < RIGHT_VALUES; what++) {
            hash = mixed(hash, now.rightValue(right, what));
        }
        for (int user = 0; user < USERS; user++) {
            hash = mixed(hash, right.standingOfUser(user));
        }
        return mixed(hash, right.stoodOn(now.today, now.today) ? 1 : 0);
    }

    private static long mixed(long hash, long value) {
        return 31 * hash + value;
    }

    private static boolean isWithin(int value, int lowest, int highest) {
        return value >= lowest && value <= highest;
    }

    private static void checkArgument(boolean holds) throws IllegalArgumentException {
        if (!holds) {
            throw new IllegalArgumentException("an argument is out of range");
        }
    }

    private static void checkState(boolean holds) throws IllegalStateException {
        if (!holds) {
            throw new IllegalStateException("the docket does not allow this call now");
        }
    }

    private Right existingRight(int number) throws IndexOutOfBoundsException {
        if (number < 0 || number >= now.rightCount || number >= now.rights.length) {
            throw new IndexOutOfBoundsException("there is no such right");
        }
        return now.rights[number];
    }

    private void save() {
        if (savedCount >= saved.length) {
            dropOldest();
        }
        if (savedCount >= 0 && savedCount < saved.length) {
            saved[savedCount].copyFrom(now);
            savedCount++;
        }
    }

    // The dropped state's row goes to the end, to be filled again: no call makes a state.
    private void dropOldest() {
        for (int i = 1; i < saved.length; i++) {
            State oldest = saved[i - 1];
            saved[i - 1] = saved[i];
            saved[i] = oldest;
        }
        savedCount = saved.length - 1;
    }

    /** Days and dates; who calls it keeps the years within 0 to 79. */
    private static final class Calendar {
        private static final int DAYS_OF_FOUR_YEARS = 1461;

        static int yearOf(int day) {
            int rest = day % DAYS_OF_FOUR_YEARS;
            // The long year is the first one of its four.
            int yearOfFour = rest < 366 ? 0 : 1 + (rest - 366) / 365;
            return day / DAYS_OF_FOUR_YEARS * 4 + yearOfFour;
        }

        static int firstDayOf(int year) {
            return 365 * year + (year + 3) / 4;
        }

        static int monthLength(int year, int month) {
            switch (month) {
                case 2:
                    return year % 4 == 0 ? 29 : 28;
                case 4:
                case 6:
                case 9:
                case 11:
                    return 30;
                default:
                    return 31;
            }
        }

        static int dateOf(int day) {
            int year = yearOf(day);
            int rest = day - firstDayOf(year);
            int month = 1;
            while (month < 12 && rest >= monthLength(year, month)) {
                rest -= monthLength(year, month);
                month++;
            }
            return 10000 * year + 100 * month + rest + 1;
        }

        static int dayOf(int year, int month, int dayOfMonth) {
            int day = firstDayOf(year) + dayOfMonth - 1;
            for (int earlier = 1; earlier < month; earlier++) {
                day += monthLength(year, earlier);
            }
            return day;
        }

        static int monthsAfter(int day, int months) {
            int date = dateOf(day);
            int monthsFromYear = date / 100 % 100 - 1 + months;
            int year = date / 10000 + monthsFromYear / 12;
            int month = monthsFromYear % 12 + 1;
            return dayOf(year, month, Math.min(date % 100, monthLength(year, month)));
        }
    }

    /** The holidays, each told as 100 * month + day of the month. */
    private static final class Holidays {
        private final int[] monthsAndDays = new int[MAX_HOLIDAYS];
        private int count = 0;

        boolean canToggle(int monthAndDay) {
            return count < monthsAndDays.length || find(monthAndDay) != NONE;
        }

        void toggle(int monthAndDay) {
            int place = find(monthAndDay);
            if (place != NONE) {
                remove(place);
            } else if (count >= 0 && count < monthsAndDays.length) {
                monthsAndDays[count] = monthAndDay;
                count++;
            }
        }

        int firstWorkingDay(int day) {
            int working = day;
            // Six holidays and the weekends between them are far fewer than a year.
            for (int i = 0; i < 366 && (working % 7 >= 5 || isHoliday(working)); i++) {
                working++;
            }
            return working;
        }

        void copyFrom(Holidays other) {
            System.arraycopy(other.monthsAndDays, 0, monthsAndDays, 0, MAX_HOLIDAYS);
            count = other.count;
        }

        private boolean isHoliday(int day) {
            return find(Calendar.dateOf(day) % 10000) != NONE;
        }

        private int find(int monthAndDay) {
            for (int i = 0; i < count && i < monthsAndDays.length; i++) {
                if (monthsAndDays[i] == monthAndDay) {
                    return i;
                }
            }
            return NONE;
        }

        // No answer depends on the order of the holidays, so the last one fills the place.
        private void remove(int place) {
            int last = count - 1;
            if (place >= 0 && place <= last && last < monthsAndDays.length) {
                monthsAndDays[place] = monthsAndDays[last];
                count = last;
            }
        }
    }

    /** What fees, surcharges and petitions cost. */
    private static final class Fees {
        private int base = 100;
        private int step = 20;
        private int percent = 50;
        private int petition = 300;

        void set(int newBase, int newStep, int newPercent, int newPetition) {
            base = newBase;
            step = newStep;
            percent = newPercent;
            petition = newPetition;
        }

        void copyFrom(Fees other) {
            set(other.base, other.step, other.percent, other.petition);
        }

        int feeFor(int year, boolean small) {
            int whole = base + step * year;
            return small ? (whole + 1) / 2 : whole;
        }

        int surchargeOn(int fee) {
            return percent * fee / 100;
        }
    }

    /** One right, with its payments, revivals and users; the arrays of years are read from 1 on. */
    private static final class Right {
        private int filed = 0;
        private int lastDay = 0;
        private boolean small = false;
        private int feesPaid = 0;
        private int sumPaid = 0;
        private int gaps = 0;
        // Holidays cannot change while there are rights: the days are reckoned once, at the filing.
        private final int[] dueDays = new int[FEE_YEARS + 1];
        private final int[] graceDays = new int[FEE_YEARS + 1];
        private final int[] paidOn = new int[FEE_YEARS + 1];
        // The day of the revival that began with this year, 0 without one: no revival falls on day 0.
        private final int[] revivedOn = new int[FEE_YEARS + 1];
        private final int[] beganOn = new int[USERS];

        void start(int day, boolean isSmall, Holidays holidays) {
            filed = day;
            lastDay = Calendar.monthsAfter(day, 240) - 1;
            small = isSmall;
            feesPaid = 0;
            sumPaid = 0;
            gaps = 0;
            for (int year = 1; year <= FEE_YEARS && year < dueDays.length && year < graceDays.length; year++) {
                dueDays[year] = holidays.firstWorkingDay(Calendar.monthsAfter(day, 12 * year));
                graceDays[year] = holidays.firstWorkingDay(Calendar.monthsAfter(day, 12 * year + 6));
            }
            Arrays.fill(paidOn, 0);
            Arrays.fill(revivedOn, 0);
            Arrays.fill(beganOn, NONE);
        }

        void copyFrom(Right other) {
            filed = other.filed;
            lastDay = other.lastDay;
            small = other.small;
            feesPaid = other.feesPaid;
            sumPaid = other.sumPaid;
            gaps = other.gaps;
            System.arraycopy(other.dueDays, 0, dueDays, 0, FEE_YEARS + 1);
            System.arraycopy(other.graceDays, 0, graceDays, 0, FEE_YEARS + 1);
            System.arraycopy(other.paidOn, 0, paidOn, 0, FEE_YEARS + 1);
            System.arraycopy(other.revivedOn, 0, revivedOn, 0, FEE_YEARS + 1);
            System.arraycopy(other.beganOn, 0, beganOn, 0, USERS);
        }

        int nextYear() {
            return feesPaid < FEE_YEARS ? feesPaid + 1 : NONE;
        }

        int dueOf(int year) {
            return year >= 1 && year < dueDays.length ? dueDays[year] : NONE;
        }

        int graceOf(int year) {
            return year >= 1 && year < graceDays.length ? graceDays[year] : NONE;
        }

        int paymentOf(int year) {
            return year >= 1 && year < paidOn.length ? paidOn[year] : 0;
        }

        int revivalOf(int year) {
            return year >= 1 && year < revivedOn.length ? revivedOn[year] : 0;
        }

        // Each call that passes a grace by leaves the fee unpaid, so the days alone tell it.
        boolean isLapsed(int today) {
            int year = nextYear();
            return year != NONE && today > graceOf(year);
        }

        void takePayment(int sum, int day) {
            int year = nextYear();
            sumPaid += sum;
            if (year >= 1 && year < paidOn.length) {
                paidOn[year] = day;
                feesPaid = year;
            }
        }

        void takeRevival(int year, int petition, int day) {
            sumPaid += petition;
            if (year >= 1 && year < revivedOn.length) {
                revivedOn[year] = day;
                gaps++;
            }
        }

        boolean stoodOn(int day, int today) {
            if (day < filed || day > lastDay) {
                return false;
            }
            if (isLapsed(today) && day > dueOf(nextYear())) {
                return false;
            }
            return !isInGap(day);
        }

        boolean isInGap(int day) {
            for (int year = 1; year <= feesPaid && year <= FEE_YEARS; year++) {
                if (day > dueOf(year) && day < revivalOf(year)) {
                    return true;
                }
            }
            return false;
        }

        boolean paidForOn(int day, int today) {
            if (day < filed || day > lastDay) {
                return false;
            }
            int unpaid = nextYear();
            if (unpaid != NONE && today > graceOf(unpaid) && day > dueOf(unpaid)) {
                return false;
            }
            for (int year = 1; year <= feesPaid && year <= FEE_YEARS; year++) {
                int payment = paymentOf(year);
                if (payment > graceOf(year) && day > dueOf(year) && day < payment) {
                    return false;
                }
            }
            return true;
        }

        int daysLived(int today) {
            return Math.min(today, lastDay) - filed + 1;
        }

        // Gaps begin and end in ascending order, but a later one can begin within an earlier one.
        int daysStood(int today) {
            int stood = 0;
            int uncounted = filed;
            for (int year = 1; year <= feesPaid && year <= FEE_YEARS; year++) {
                if (revivalOf(year) > 0) {
                    stood += Math.max(0, dueOf(year) + 1 - uncounted);
                    uncounted = revivalOf(year);
                }
            }
            int end = Math.min(today, lastDay);
            if (isLapsed(today)) {
                end = Math.min(end, dueOf(nextYear()));
            }
            return stood + Math.max(0, end + 1 - uncounted);
        }

        boolean hasBegun(int user) {
            return standingOfUser(user) != 0;
        }

        void begin(int user, int day) {
            if (user >= 0 && user < beganOn.length) {
                beganOn[user] = day;
            }
        }

        int standingOfUser(int user) {
            if (user < 0 || user >= beganOn.length || beganOn[user] == NONE) {
                return 0;
            }
            return isInGap(beganOn[user]) ? 2 : 1;
        }

        int countUsers() {
            int count = 0;
            for (int user = 0; user < USERS; user++) {
                if (hasBegun(user)) {
                    count++;
                }
            }
            return count;
        }

        int countProtected() {
            int count = 0;
            for (int user = 0; user < USERS; user++) {
                if (standingOfUser(user) == 2) {
                    count++;
                }
            }
            return count;
        }
    }

    /** All that undo restores. */
    private static final class State {
        private int today = 0;
        private int rightCount = 0;
        private int sumPaid = 0;
        private int sumSurcharges = 0;
        private int sumPetitions = 0;
        private final Right[] rights = new Right[MAX_RIGHTS];
        private final Holidays holidays = new Holidays();
        private final Fees fees = new Fees();

        State() {
            for (int i = 0; i < rights.length; i++) {
                rights[i] = new Right();
            }
        }

        void copyFrom(State other) {
            today = other.today;
            sumPaid = other.sumPaid;
            sumSurcharges = other.sumSurcharges;
            sumPetitions = other.sumPetitions;
            holidays.copyFrom(other.holidays);
            fees.copyFrom(other.fees);
            rightCount = other.rightCount;
            for (int i = 0; i < rightCount && i < rights.length && i < other.rights.length; i++) {
                rights[i].copyFrom(other.rights[i]);
            }
        }

        void addRight(int day, boolean small) {
            if (rightCount >= 0 && rightCount < rights.length) {
                rights[rightCount].start(day, small, holidays);
                rightCount++;
            }
        }

        void takeRights(Text text) {
            sumPaid = 0;
            sumSurcharges = 0;
            sumPetitions = 0;
            rightCount = 0;
            int latest = 0;
            for (int i = 0; i < text.rightCount && i < text.filed.length && i < text.small.length; i++) {
                addRight(text.filed[i], text.small[i]);
                latest = Math.max(latest, text.filed[i]);
            }
            if (rightCount > 0) {
                today = latest;
            }
        }

        int lapsesWithin(int days) {
            int count = 0;
            for (int i = 0; i < rightCount && i < rights.length; i++) {
                if (!rights[i].isLapsed(today) && rights[i].isLapsed(today + days)) {
                    count++;
                }
            }
            return count;
        }

        boolean canPay(Right right) {
            int year = right.nextYear();
            return year != NONE && !right.isLapsed(today) && today >= right.dueOf(year) - DAYS_AHEAD;
        }

        boolean canRevive(Right right) {
            if (!right.isLapsed(today) || today > right.lastDay) {
                return false;
            }
            int yearAfterGrace = Calendar.monthsAfter(right.graceOf(right.nextYear()), 12);
            return today <= holidays.firstWorkingDay(yearAfterGrace);
        }

        boolean canUse(Right right, int user) {
            return !right.stoodOn(today, today) && today <= right.lastDay && !right.hasBegun(user);
        }

        int surchargeToday(Right right, int year) {
            return today > right.dueOf(year) ? fees.surchargeOn(fees.feeFor(year, right.small)) : 0;
        }

        int priceToday(Right right, int year) {
            return year == NONE ? 0 : fees.feeFor(year, right.small) + surchargeToday(right, year);
        }

        int payNextFee(Right right) {
            int year = right.nextYear();
            int price = priceToday(right, year);
            sumPaid += price;
            sumSurcharges += surchargeToday(right, year);
            right.takePayment(price, today);
            return price;
        }

        int payAllFees() {
            int sum = 0;
            for (int i = 0; i < rightCount && i < rights.length; i++) {
                if (canPay(rights[i])) {
                    sum += payNextFee(rights[i]);
                }
            }
            return sum;
        }

        int reviveRight(Right right) {
            int sum = fees.petition;
            sumPaid += fees.petition;
            sumPetitions += fees.petition;
            right.takeRevival(right.nextYear(), fees.petition, today);
            for (int i = 0; i < FEE_YEARS && right.isLapsed(today); i++) {
                sum += payNextFee(right);
            }
            return sum;
        }

        int rightDueFirst() {
            int first = NONE;
            int firstDay = 0;
            for (int i = 0; i < rightCount && i < rights.length; i++) {
                int year = rights[i].nextYear();
                if (year != NONE && !rights[i].isLapsed(today)
                        && (first == NONE || rights[i].dueOf(year) < firstDay)) {
                    first = i;
                    firstDay = rights[i].dueOf(year);
                }
            }
            return first;
        }

        int costsWithin(int days) {
            int sum = 0;
            for (int i = 0; i < rightCount && i < rights.length; i++) {
                if (!rights[i].isLapsed(today)) {
                    sum += costsUpTo(rights[i], today + days);
                }
            }
            return sum;
        }

        private int costsUpTo(Right right, int end) {
            int sum = 0;
            for (int year = right.feesPaid + 1; year <= FEE_YEARS && right.dueOf(year) <= end; year++) {
                sum += priceToday(right, year);
            }
            return sum;
        }

        int rightValue(Right right, int what) {
            switch (what) {
                case 0: return right.filed;
                case 1: return right.small ? 1 : 0;
                case 2: return right.feesPaid;
                case 3: return right.nextYear();
                case 4: return right.dueOf(right.nextYear());
                case 5: return right.graceOf(right.nextYear());
                case 6: return priceToday(right, right.nextYear());
                case 7: return right.isLapsed(today) ? 1 : 0;
                case 8: return right.lastDay;
                case 9: return right.gaps;
                case 10: return right.countUsers();
                case 11: return right.countProtected();
                default: return right.sumPaid;
            }
        }

        int docketValue(int what) {
            switch (what) {
                case 0: return today;
                case 1: return rightCount;
                case 2: return countStanding();
                case 3: return countLapsed();
                case 4: return holidays.count;
                case 5: return sumPaid;
                case 6: return sumSurcharges;
                case 7: return sumPetitions;
                case 8: return fees.base;
                case 9: return fees.step;
                case 10: return fees.percent;
                default: return fees.petition;
            }
        }

        private int countStanding() {
            int count = 0;
            for (int i = 0; i < rightCount && i < rights.length; i++) {
                if (rights[i].stoodOn(today, today)) {
                    count++;
                }
            }
            return count;
        }

        private int countLapsed() {
            int count = 0;
            for (int i = 0; i < rightCount && i < rights.length; i++) {
                if (rights[i].isLapsed(today)) {
                    count++;
                }
            }
            return count;
        }
    }

    /** The text, and the rights that were last read from it. */
    private static final class Text {
        private final byte[] bytes = new byte[MAX_TEXT];
        private int length = 0;
        private int position = 0;
        private int error = NONE;
        private int rightCount = 0;
        private final int[] filed = new int[MAX_RIGHTS];
        private final boolean[] small = new boolean[MAX_RIGHTS];

        void add(int value) {
            if (length >= 0 && length < bytes.length) {
                bytes[length] = (byte) value;
                length++;
            }
        }

        // Answers the position of the syntax error, or NONE.
        int read() {
            position = 0;
            error = NONE;
            rightCount = 0;
            for (int i = 0; i <= MAX_RIGHTS && position < length && error == NONE; i++) {
                readRight();
            }
            return error;
        }

        private void readRight() {
            if (rightCount < 0 || rightCount >= filed.length || rightCount >= small.length) {
                error = position;
                return;
            }
            int year = readNumber(0, LAST_FILING_YEAR);
            readSign('-');
            int month = readNumber(1, 12);
            readSign('-');
            int day = readNumber(1, Calendar.monthLength(year, month));
            boolean isSmall = readSmall();
            readSign(';');
            if (error == NONE) {
                filed[rightCount] = Calendar.dayOf(year, month, day);
                small[rightCount] = isSmall;
                rightCount++;
            }
        }

        // Behind an error nothing is read any more: the first one counts.
        private int readNumber(int lowest, int highest) {
            int first = position;
            int number = 0;
            while (error == NONE && position < first + 2 && isDigit(position)) {
                number = 10 * number + signAt(position) - '0';
                position++;
            }
            if (error != NONE) {
                return lowest;
            }
            if (position == first || isDigit(position)) {
                error = position;
            } else if (number < lowest || number > highest) {
                error = first;
            }
            return number;
        }

        private void readSign(char sign) {
            if (error != NONE) {
                return;
            }
            if (signAt(position) == sign) {
                position++;
            } else {
                error = position;
            }
        }

        private boolean readSmall() {
            if (error != NONE || signAt(position) != 's') {
                return false;
            }
            position++;
            return true;
        }

        private boolean isDigit(int index) {
            return signAt(index) >= '0' && signAt(index) <= '9';
        }

        // NONE stands for the end of the text.
        private int signAt(int index) {
            return index >= 0 && index < length && index < bytes.length ? bytes[index] : NONE;
        }
    }
}
