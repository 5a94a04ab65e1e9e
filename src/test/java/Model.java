import java.util.ArrayList;
import java.util.Arrays;
import java.util.HashSet;
import java.util.List;
import java.util.Set;
import java.util.function.ToIntFunction;

/**
 * The document once more, written for plainness: it keeps all that ever happened, and works each answer out of it.
 * The calls have the names of the face, for ModelTest to find them.
 */
public final class Model {
    private enum State { OPEN, TRYING, GRACE, OVERDUE, PROMISED, WRITTEN_OFF, PAID }

    private record Event(int day, Owed bill, State into) { }

    private record Payment(int amount, boolean isBehindWriteOff) { }

    private static final class Owed {
        int number;
        int account;
        int amount;
        int lost;
        Integer waits;
        State ahead;
        int daysAhead;
        int broken;
        List<Payment> payments = new ArrayList<>();
        List<Integer> failures = new ArrayList<>();
        List<Event> events = new ArrayList<>();

        State state() {
            return events.get(events.size() - 1).into();
        }

        int rest() {
            return amount - payments.stream().mapToInt(Payment::amount).sum();
        }

        int entered(State state) {
            return (int) events.stream().filter(event -> event.into() == state).count();
        }

        int failed(int reason) {
            return (int) failures.stream().filter(each -> each == reason).count();
        }
    }

    private final Set<Integer> freeWeekdays = new HashSet<>(List.of(5, 6));
    private final Set<Integer> holidays = new HashSet<>();
    private final List<List<Integer>> rows = new ArrayList<>();
    private final List<Owed> owed = new ArrayList<>();
    private final List<Event> happened = new ArrayList<>();
    private int day = 0;
    private int graceTime = 10;
    private int overdueTime = 30;

    public Model() {
        rows.add(null);
        rows.add(new ArrayList<>(Arrays.asList(3, 5, 7)));
        rows.add(new ArrayList<>(Arrays.asList(7, 7)));
        rows.add(new ArrayList<>());
        rows.add(new ArrayList<>(Arrays.asList(1, 1, 1, 1)));
    }

    private static void index(boolean isThere) {
        if (!isThere) {
            throw new IndexOutOfBoundsException();
        }
    }

    private static void argument(boolean isGood) {
        if (!isGood) {
            throw new IllegalArgumentException();
        }
    }

    private static void state(boolean isGood) {
        if (!isGood) {
            throw new IllegalStateException();
        }
    }

    private static boolean in(int value, int least, int most) {
        return least <= value && value <= most;
    }

    private Owed find(int bill) {
        index(in(bill, 0, owed.size() - 1));
        return owed.get(bill);
    }

    private boolean charges(int asked) {
        return !freeWeekdays.contains(asked % 7) && !holidays.contains(asked);
    }

    private int chargingDay(int least) {
        return charges(least) ? least : chargingDay(least + 1);
    }

    private void become(Owed bill, State into, Integer waits) {
        Event event = new Event(day, bill, into);
        bill.events.add(event);
        happened.add(event);
        bill.waits = waits;
    }

    private void settle(Owed bill, int payment) {
        bill.payments.add(new Payment(payment, bill.state() == State.WRITTEN_OFF));
        if (bill.rest() == 0) {
            become(bill, State.PAID, null);
        }
    }

    private void answerCharge(Owed bill, int outcome) {
        if (outcome == 0) {
            settle(bill, bill.rest());
            return;
        }
        bill.failures.add(outcome);
        List<Integer> row = rows.get(outcome);
        int k = bill.failed(outcome);
        if (row.size() >= k) {
            become(bill, State.OPEN, chargingDay(day + row.get(k - 1)));
        } else {
            become(bill, State.GRACE, day + graceTime);
        }
    }

    private void look(Owed bill) {
        State now = bill.state();
        boolean isEnd = bill.waits != null && bill.waits == day;
        if (now == State.OPEN && bill.waits <= day) {
            if (charges(day)) {
                become(bill, State.TRYING, null);
            } else {
                bill.waits = chargingDay(day + 1);
            }
        } else if (now == State.GRACE && isEnd) {
            become(bill, State.OVERDUE, day + overdueTime);
        } else if (now == State.OVERDUE && isEnd) {
            bill.lost = bill.rest();
            become(bill, State.WRITTEN_OFF, null);
        } else if (now == State.PROMISED && isEnd) {
            bill.broken++;
            become(bill, bill.ahead, bill.ahead == State.OPEN ? chargingDay(day + 1) : day + bill.daysAhead);
        }
    }

    private int sum(ToIntFunction<Owed> part) {
        return owed.stream().mapToInt(part).sum();
    }

    public int setWeekday(int weekday, boolean isCharging) {
        index(in(weekday, 0, 6));
        Set<Integer> then = new HashSet<>(freeWeekdays);
        if (isCharging) {
            then.remove(weekday);
        } else {
            then.add(weekday);
        }
        state(then.size() < 7);
        freeWeekdays.clear();
        freeWeekdays.addAll(then);
        return 7 - then.size();
    }

    public boolean addHoliday(int holiday) {
        argument(holiday > day && (long) holiday - day <= 60);
        return holidays.add(holiday);
    }

    public int addGap(int reason, int days) {
        index(in(reason, 1, 4));
        argument(in(days, 1, 30));
        state(rows.get(reason).size() < 6);
        rows.get(reason).add(days);
        return rows.get(reason).size();
    }

    public int clearGaps(int reason) {
        index(in(reason, 1, 4));
        int size = rows.get(reason).size();
        rows.get(reason).clear();
        return size;
    }

    public int setTimes(int grace, int overdue) {
        argument(in(grace, 1, 60) && in(overdue, 1, 90));
        int before = graceTime;
        graceTime = grace;
        overdueTime = overdue;
        return before;
    }

    public int bill(int account, int amount) {
        index(in(account, 0, 7));
        argument(in(amount, 1, 9999));
        state(owed.size() < 30);
        Owed made = new Owed();
        made.number = owed.size();
        made.account = account;
        made.amount = amount;
        owed.add(made);
        become(made, State.OPEN, chargingDay(day + 1));
        return made.number;
    }

    public int outcome(int bill, int outcome) {
        Owed told = find(bill);
        argument(in(outcome, 0, 4));
        state(told.state() == State.TRYING);
        answerCharge(told, outcome);
        return told.state().ordinal();
    }

    public int pay(int bill, int amount) {
        Owed payable = find(bill);
        argument(in(amount, 1, 9999));
        state(payable.state() != State.TRYING && payable.state() != State.PAID && amount <= payable.rest());
        settle(payable, amount);
        return payable.rest();
    }

    public int promise(int bill, int days) {
        Owed held = find(bill);
        argument(in(days, 1, 30));
        state(Set.of(State.OPEN, State.GRACE, State.OVERDUE).contains(held.state()));
        state(held.entered(State.PROMISED) < 2);
        held.ahead = held.state();
        held.daysAhead = held.waits - day;
        become(held, State.PROMISED, day + days);
        return day + days;
    }

    public int pass(int days) {
        argument(in(days, 1, 60));
        int before = sum(bill -> bill.entered(State.TRYING));
        for (int i = 0; i < days; i++) {
            owed.stream().filter(bill -> bill.state() == State.TRYING).forEach(bill -> answerCharge(bill, 4));
            day++;
            owed.forEach(this::look);
        }
        return sum(bill -> bill.entered(State.TRYING)) - before;
    }

    public int today() {
        return day;
    }

    public boolean isCharging(int asked) {
        argument(in(asked, 0, 1000000));
        return charges(asked);
    }

    public int bills() {
        return owed.size();
    }

    public int stateOf(int bill) {
        return find(bill).state().ordinal();
    }

    public int left(int bill) {
        return find(bill).rest();
    }

    public int tries(int bill) {
        return find(bill).entered(State.TRYING);
    }

    public int failures(int bill, int reason) {
        Owed asked = find(bill);
        index(in(reason, 1, 4));
        return asked.failed(reason);
    }

    public int waitsFor(int bill) {
        Integer waits = find(bill).waits;
        return waits == null ? -1 : waits;
    }

    public int broken(int bill) {
        return find(bill).broken;
    }

    public int service(int account) {
        index(in(account, 0, 7));
        List<State> states = owed.stream().filter(bill -> bill.account == account)
            .map(bill -> bill.state() == State.PROMISED && bill.ahead != State.OPEN ? State.GRACE : bill.state())
            .toList();
        if (states.contains(State.OVERDUE) || states.contains(State.WRITTEN_OFF)) {
            return 0;
        }
        return states.contains(State.GRACE) ? 1 : 2;
    }

    public int billed() {
        return sum(bill -> bill.amount);
    }

    public int paid() {
        return sum(bill -> bill.amount - bill.rest());
    }

    public int writtenOff() {
        return sum(bill -> bill.lost);
    }

    public int broughtBack() {
        return sum(bill -> bill.payments.stream().filter(Payment::isBehindWriteOff).mapToInt(Payment::amount).sum());
    }

    public int leftIn(int account, int state) {
        index(in(account, 0, 7));
        argument(in(state, 0, 6));
        return sum(bill -> bill.account == account && bill.state().ordinal() == state ? bill.rest() : 0);
    }

    public int events() {
        return happened.size();
    }

    public int event(int back) {
        index(in(back, 0, 399) && back < happened.size());
        Event event = happened.get(happened.size() - 1 - back);
        return event.day() * 1000 + event.bill().number * 10 + event.into().ordinal();
    }

    public int stateAt(int bill, int asked) {
        Owed of = find(bill);
        argument(in(asked, 0, day));
        int found = -1;
        for (Event event : happened.subList(Math.max(0, happened.size() - 400), happened.size())) {
            if (event.bill() == of && event.day() <= asked) {
                found = event.into().ordinal();
            }
        }
        return found;
    }
}
