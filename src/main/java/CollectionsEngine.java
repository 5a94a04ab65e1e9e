/**
 * A collections engine: bills are charged, tried again by reason and calendar, and then go through
 * grace and overdue to their write-off. The caller lets the days pass and tells the outcomes.
 */
public final class CollectionsEngine {
    public static final int NONE = -1;
    public static final int OPEN = 0, TRYING = 1, GRACE = 2, OVERDUE = 3, PROMISED = 4, WRITTEN_OFF = 5, PAID = 6;
    public static final int SUCCESS = 0, NO_MONEY = 1, EXPIRED = 2, BLOCKED = 3, ERROR = 4;
    public static final int CUT = 0, BASIC = 1, FULL = 2;

    private static final int ACCOUNTS = 8;
    private static final int MOST_BILLS = 30;
    private static final int MOST_AMOUNT = 9999;
    private static final int REASONS = 4;
    private static final int MOST_GAPS = 6;
    private static final int MOST_GAP_DAYS = 30;
    private static final int MOST_GRACE = 60;
    private static final int MOST_OVERDUE = 90;
    private static final int MOST_PROMISES = 2;
    private static final int MOST_PROMISE_DAYS = 30;
    private static final int MOST_PASSED_DAYS = 60;
    private static final int MOST_HOLIDAY_AHEAD = 60;
    private static final int LATEST_ASKED_DAY = 1000000;
    private static final int EVENTS_TOLD = 400;

    private static final int[] FIRST_GAPS_NO_MONEY = {3, 5, 7};
    private static final int[] FIRST_GAPS_EXPIRED = {7, 7};
    private static final int[] FIRST_GAPS_BLOCKED = {};
    private static final int[] FIRST_GAPS_ERROR = {1, 1, 1, 1};

    private final Calendar calendar;
    private final Gaps[] gaps;
    private final Bill[] billRow;
    private final EventLog log;
    private int billCount;
    private int currentDay;
    private int graceTime;
    private int overdueTime;
    private int billedSum;
    private int paidSum;
    private int writtenOffSum;
    private int broughtBackSum;

    public CollectionsEngine() {
        calendar = new Calendar();
        gaps = new Gaps[] {
            new Gaps(FIRST_GAPS_NO_MONEY), new Gaps(FIRST_GAPS_EXPIRED),
            new Gaps(FIRST_GAPS_BLOCKED), new Gaps(FIRST_GAPS_ERROR)
        };
        billRow = new Bill[MOST_BILLS];
        log = new EventLog();
        graceTime = 10;
        overdueTime = 30;
    }

    // ---- rules

    public int setWeekday(int weekday, boolean isCharging) throws IndexOutOfBoundsException, IllegalStateException {
        if (weekday < 0 || weekday >= Calendar.WEEK) {
            throw new IndexOutOfBoundsException("no such weekday");
        }
        int weekdays = calendar.weekdaysWith(weekday, isCharging);
        if (weekdays == 0) {
            throw new IllegalStateException("no weekday would be left for charging");
        }
        calendar.weekdays = weekdays;
        return Integer.bitCount(weekdays);
    }

    public boolean addHoliday(int day) throws IllegalArgumentException {
        checkRange(day, currentDay + 1, currentDay + MOST_HOLIDAY_AHEAD);
        boolean isNew = !calendar.isHoliday(day);
        calendar.keepHoliday(day);
        return isNew;
    }

    public int addGap(int reason, int days)
            throws IndexOutOfBoundsException, IllegalArgumentException, IllegalStateException {
        Gaps row = gaps[indexOfReason(reason)];
        checkRange(days, 1, MOST_GAP_DAYS);
        if (row.count >= MOST_GAPS) {
            throw new IllegalStateException("the row of gaps is full");
        }
        row.append(days);
        return row.count;
    }

    public int clearGaps(int reason) throws IndexOutOfBoundsException {
        Gaps row = gaps[indexOfReason(reason)];
        int before = row.count;
        row.count = 0;
        return before;
    }

    public int setTimes(int grace, int overdue) throws IllegalArgumentException {
        checkRange(grace, 1, MOST_GRACE);
        checkRange(overdue, 1, MOST_OVERDUE);
        int before = graceTime;
        graceTime = grace;
        overdueTime = overdue;
        return before;
    }

    // ---- bills

    public int bill(int account, int amount)
            throws IndexOutOfBoundsException, IllegalArgumentException, IllegalStateException {
        checkAccount(account);
        checkRange(amount, 1, MOST_AMOUNT);
        int number = billCount;
        if (number < 0 || number >= billRow.length) {
            throw new IllegalStateException("there are as many bills as there can be");
        }
        Bill made = new Bill(number, account, amount);
        billRow[number] = made;
        billCount = number + 1;
        billedSum += amount;
        enter(made, OPEN, calendar.firstChargingFrom(currentDay + 1));
        return number;
    }

    public int outcome(int bill, int outcome)
            throws IndexOutOfBoundsException, IllegalArgumentException, IllegalStateException {
        Bill tried = findBill(bill);
        checkRange(outcome, SUCCESS, ERROR);
        if (tried.state != TRYING) {
            throw new IllegalStateException("the bill is not being tried");
        }
        if (outcome == SUCCESS) {
            takePayment(tried, tried.left);
        } else {
            fail(tried, outcome);
        }
        return tried.state;
    }

    public int pay(int bill, int amount)
            throws IndexOutOfBoundsException, IllegalArgumentException, IllegalStateException {
        Bill payable = findBill(bill);
        checkRange(amount, 1, MOST_AMOUNT);
        if (payable.state == TRYING || payable.state == PAID || amount > payable.left) {
            throw new IllegalStateException("the bill takes no such payment");
        }
        takePayment(payable, amount);
        return payable.left;
    }

    public int promise(int bill, int days)
            throws IndexOutOfBoundsException, IllegalArgumentException, IllegalStateException {
        Bill held = findBill(bill);
        checkRange(days, 1, MOST_PROMISE_DAYS);
        boolean isHoldable = held.state == OPEN || held.state == GRACE || held.state == OVERDUE;
        if (!isHoldable || held.promises >= MOST_PROMISES) {
            throw new IllegalStateException("the bill takes no promise");
        }
        held.promises++;
        held.stateAhead = held.state;
        held.daysAhead = held.waitDay - currentDay;
        enter(held, PROMISED, currentDay + days);
        return held.waitDay;
    }

    public int pass(int days) throws IllegalArgumentException {
        checkRange(days, 1, MOST_PASSED_DAYS);
        int begun = 0;
        for (int passed = 0; passed < days; passed++) {
            failUnansweredTries();
            currentDay++;
            begun += lookAtBills();
        }
        return begun;
    }

    // ---- bills as they are

    public int today() {
        return currentDay;
    }

    public boolean isCharging(int day) throws IllegalArgumentException {
        checkRange(day, 0, LATEST_ASKED_DAY);
        return calendar.allowsCharging(day);
    }

    public int bills() {
        return billCount;
    }

    public int stateOf(int bill) throws IndexOutOfBoundsException {
        return findBill(bill).state;
    }

    public int left(int bill) throws IndexOutOfBoundsException {
        return findBill(bill).left;
    }

    public int tries(int bill) throws IndexOutOfBoundsException {
        return findBill(bill).tries;
    }

    public int failures(int bill, int reason) throws IndexOutOfBoundsException {
        Bill asked = findBill(bill);
        return asked.failures[indexOfReason(reason)];
    }

    public int waitsFor(int bill) throws IndexOutOfBoundsException {
        return findBill(bill).waitDay;
    }

    public int broken(int bill) throws IndexOutOfBoundsException {
        return findBill(bill).brokenPromises;
    }

    public int service(int account) throws IndexOutOfBoundsException {
        checkAccount(account);
        int worst = FULL;
        for (int i = 0; i < billRow.length; i++) {
            Bill each = billRow[i];
            if (each != null && each.account == account) {
                worst = Math.min(worst, serviceWith(each));
            }
        }
        return worst;
    }

    // ---- sums

    public int billed() {
        return billedSum;
    }

    public int paid() {
        return paidSum;
    }

    public int writtenOff() {
        return writtenOffSum;
    }

    public int broughtBack() {
        return broughtBackSum;
    }

    public int leftIn(int account, int state) throws IndexOutOfBoundsException, IllegalArgumentException {
        checkAccount(account);
        checkRange(state, OPEN, PAID);
        int sum = 0;
        for (int i = 0; i < billRow.length; i++) {
            Bill each = billRow[i];
            if (each != null && each.account == account && each.state == state) {
                sum += each.left;
            }
        }
        return sum;
    }

    // ---- events

    public int events() {
        return log.total;
    }

    public int event(int back) throws IndexOutOfBoundsException {
        if (back < 0 || back >= log.told()) {
            throw new IndexOutOfBoundsException("no such event");
        }
        return log.codeAt(back);
    }

    public int stateAt(int bill, int day) throws IndexOutOfBoundsException, IllegalArgumentException {
        findBill(bill);
        checkRange(day, 0, currentDay);
        return log.lastStateOf(bill, day);
    }

    // ---- checks of arguments

    private static void checkRange(int value, int least, int most) {
        if (value < least || value > most) {
            throw new IllegalArgumentException("an argument is out of range");
        }
    }

    private static void checkAccount(int account) {
        if (account < 0 || account >= ACCOUNTS) {
            throw new IndexOutOfBoundsException("no such account");
        }
    }

    private static int indexOfReason(int reason) {
        if (reason < NO_MONEY || reason > ERROR) {
            throw new IndexOutOfBoundsException("no such reason");
        }
        return reason - NO_MONEY;
    }

    private Bill findBill(int number) {
        Bill found = number >= 0 && number < billRow.length ? billRow[number] : null;
        if (found == null) {
            throw new IndexOutOfBoundsException("no such bill");
        }
        return found;
    }

    // ---- what happens to a bill

    private void enter(Bill moved, int state, int waitDay) {
        moved.state = state;
        moved.waitDay = waitDay;
        log.add(currentDay, moved.number, state);
    }

    private void takePayment(Bill payable, int amount) {
        payable.left -= amount;
        paidSum += amount;
        if (payable.state == WRITTEN_OFF) {
            broughtBackSum += amount;
        }
        if (payable.left == 0) {
            enter(payable, PAID, NONE);
        }
    }

    private void fail(Bill failed, int reason) {
        int index = indexOfReason(reason);
        failed.failures[index]++;
        int gap = gaps[index].daysBehind(failed.failures[index]);
        if (gap == 0) {
            enter(failed, GRACE, currentDay + graceTime);
        } else {
            enter(failed, OPEN, calendar.firstChargingFrom(currentDay + gap));
        }
    }

    // All of these come ahead of the new day, so their events and gaps count from the old one.
    private void failUnansweredTries() {
        for (int i = 0; i < billRow.length; i++) {
            Bill each = billRow[i];
            if (each != null && each.state == TRYING) {
                fail(each, ERROR);
            }
        }
    }

    private int lookAtBills() {
        int begun = 0;
        for (int i = 0; i < billRow.length; i++) {
            Bill each = billRow[i];
            if (each != null && lookAt(each)) {
                begun++;
            }
        }
        return begun;
    }

    /** Tells whether a try began. */
    private boolean lookAt(Bill seen) {
        if (seen.state == OPEN) {
            return seen.waitDay <= currentDay && beginTry(seen);
        }
        if (seen.waitDay != currentDay) {
            return false;
        }
        if (seen.state == GRACE) {
            enter(seen, OVERDUE, currentDay + overdueTime);
        } else if (seen.state == OVERDUE) {
            writtenOffSum += seen.left;
            enter(seen, WRITTEN_OFF, NONE);
        } else if (seen.state == PROMISED) {
            breakPromise(seen);
        }
        return false;
    }

    private boolean beginTry(Bill due) {
        // The rules may have changed since the day of the try was found.
        if (!calendar.allowsCharging(currentDay)) {
            due.waitDay = calendar.firstChargingFrom(currentDay + 1);
            return false;
        }
        due.tries++;
        enter(due, TRYING, NONE);
        return true;
    }

    private void breakPromise(Bill held) {
        held.brokenPromises++;
        if (held.stateAhead == OPEN) {
            enter(held, OPEN, calendar.firstChargingFrom(currentDay + 1));
        } else {
            enter(held, held.stateAhead, currentDay + held.daysAhead);
        }
    }

    private static int serviceWith(Bill one) {
        if (one.state == OVERDUE || one.state == WRITTEN_OFF) {
            return CUT;
        }
        boolean isLateBehindPromise = one.state == PROMISED && one.stateAhead != OPEN;
        return one.state == GRACE || isLateBehindPromise ? BASIC : FULL;
    }

    private static final class Bill {
        final int number;
        final int account;
        final int[] failures;
        int left;
        int state;
        int waitDay;
        int tries;
        int promises;
        int brokenPromises;
        int stateAhead;
        int daysAhead;

        Bill(int number, int account, int amount) {
            this.number = number;
            this.account = account;
            this.left = amount;
            this.failures = new int[REASONS];
        }
    }

    /** The gaps for one reason, in the order of the failures. */
    private static final class Gaps {
        final int[] days;
        int count;

        Gaps(int[] first) {
            days = new int[MOST_GAPS];
            for (int i = 0; i < first.length && i < days.length; i++) {
                days[i] = first[i];
                count++;
            }
        }

        void append(int gap) {
            if (count >= 0 && count < days.length) {
                days[count] = gap;
                count++;
            }
        }

        /** The gap behind the failure of this rank, counted from 1; 0, which is no gap, if there is none. */
        int daysBehind(int rank) {
            boolean isThere = rank >= 1 && rank <= count && rank <= days.length;
            return isThere ? days[rank - 1] : 0;
        }
    }

    private static final class Calendar {
        static final int WEEK = 7;

        // 512 calls of at most 60 days each end before day 31,000: a bit for each day up to there.
        private static final int HOLIDAY_WORDS = 485;
        private static final int MONDAY_TO_FRIDAY = 31;
        // Holidays lie at most 60 days ahead, and one weekday of seven is left: no search comes near this.
        private static final int SEARCHED_DAYS = 1000;

        int weekdays;
        private final long[] holidays;

        Calendar() {
            weekdays = MONDAY_TO_FRIDAY;
            holidays = new long[HOLIDAY_WORDS];
        }

        int weekdaysWith(int weekday, boolean isIn) {
            int bit = 1 << weekday;
            return isIn ? weekdays | bit : weekdays & ~bit;
        }

        void keepHoliday(int day) {
            int word = day >> 6;
            if (word >= 0 && word < holidays.length) {
                holidays[word] |= 1L << (day & 63);
            }
        }

        boolean isHoliday(int day) {
            int word = day >> 6;
            return word >= 0 && word < holidays.length && (holidays[word] >>> (day & 63) & 1L) == 1L;
        }

        boolean allowsCharging(int day) {
            int bit = 1 << Math.floorMod(day, WEEK);
            return (weekdays & bit) != 0 && !isHoliday(day);
        }

        int firstChargingFrom(int day) {
            int found = day;
            for (int i = 0; i < SEARCHED_DAYS && !allowsCharging(found); i++) {
                found++;
            }
            return found;
        }
    }

    /** The latest events as they are told, in a ring; of the ones before them only the number is kept. */
    private static final class EventLog {
        private static final int DAY_UNIT = 1000;
        private static final int BILL_UNIT = 10;

        private final int[] codes;
        int total;

        EventLog() {
            codes = new int[EVENTS_TOLD];
        }

        void add(int day, int bill, int state) {
            codes[Math.floorMod(total, EVENTS_TOLD)] = DAY_UNIT * day + BILL_UNIT * bill + state;
            total++;
        }

        int told() {
            return Math.min(total, EVENTS_TOLD);
        }

        int codeAt(int back) {
            return codes[Math.floorMod(total - 1 - back, EVENTS_TOLD)];
        }

        int lastStateOf(int bill, int day) {
            int told = told();
            for (int back = 0; back < told; back++) {
                int code = codeAt(back);
                boolean isOfBill = code % DAY_UNIT / BILL_UNIT == bill;
                if (isOfBill && code / DAY_UNIT <= day) {
                    return code % BILL_UNIT;
                }
            }
            return NONE;
        }
    }
}
