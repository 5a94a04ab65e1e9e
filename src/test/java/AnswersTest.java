/** Promises 12 to 29: what the calls tell that only ask. */
public final class AnswersTest implements Names {
    private static final Checks CHECKS = new Checks();

    public static void main(String[] args) {
        CHECKS.run(AnswersTest.class);
    }

    // ---- promise 12, today

    @Sentence(of = "Promise 12", says = "Returns today.")
    static void today() {
        CollectionsEngine x = new CollectionsEngine();
        CHECKS.due(0, x.today());
        x.pass(1);
        CHECKS.due(1, x.today());
        x.pass(60);
        CHECKS.due(61, x.today());
        x.bill(0, 1);
        x.promise(0, 30);
        x.addHoliday(70);
        CHECKS.due(61, x.today());
    }

    // ---- promise 13, isCharging

    @Sentence(of = "Promise 13", says = {"Tells whether a day is a charging day.", "Returns whether it is."})
    static void chargingDays() {
        CollectionsEngine x = new CollectionsEngine();
        x.addHoliday(7);
        x.setWeekday(6, true);
        x.setWeekday(2, false);
        boolean[] weekdays = {true, true, false, true, true, false, true};
        for (int day : Checks.range(0, 300)) {
            CHECKS.due(weekdays[day % 7] && day != 7, x.isCharging(day));
        }
        x.pass(10);
        CHECKS.due(false, x.isCharging(7));
        CHECKS.due(true, x.isCharging(0));
    }

    @Sentence(of = "Promise 13", says = {"`day`: 0 to 1000000",
        "Throws `IllegalArgumentException` if day is out of range"})
    static void daysThatCanBeAsked() {
        CHECKS.answers(true, CollectionsEngine::new, x -> x.isCharging(0));
        CHECKS.answers(true, CollectionsEngine::new, x -> x.isCharging(1000000));
        CHECKS.answers(true, CollectionsEngine::new, x -> x.isCharging(999999));
        CHECKS.answers(false, CollectionsEngine::new, x -> x.isCharging(999998));
        for (int day : new int[] {-1, 1000001, -7, MIN, MAX}) {
            CHECKS.refused(CollectionsEngine::new, Checks.NO_ARGUMENT, x -> x.isCharging(day));
        }
    }

    @Sentence(of = "Promise 13", says = "`day`: 0 to 1000000")
    static void everyDayThatCanBeAsked() {
        CollectionsEngine x = null;
        for (int day : Checks.range(0, 1000000)) {
            if (day % 500 == 0) {
                x = new CollectionsEngine();
            }
            CHECKS.due(day % 7 < 5, x.isCharging(day));
        }
    }

    // ---- promise 14, bills

    @Sentence(of = "Promise 14", says = "Returns how many bills there are.")
    static void countOfBills() {
        CollectionsEngine x = new CollectionsEngine();
        for (int made : Checks.range(0, 29)) {
            CHECKS.due(made, x.bills());
            x.bill(7, 1);
        }
        CHECKS.due(30, x.bills());
        CHECKS.answers(30, () -> Runs.writtenOff(30), each -> each.bills());
    }

    // ---- promise 15, stateOf

    @Sentence(of = "Promise 15", says = {"Returns the state of a bill.", "Returns OPEN to PAID."})
    static void stateOfBills() {
        for (int state : Checks.range(OPEN, PAID)) {
            CHECKS.answers(state, Runs::states, x -> x.stateOf(state));
        }
        CHECKS.answers(OPEN, () -> Runs.made(30), x -> x.stateOf(29));
    }

    @Sentence(of = "Promise 15", says = {"`bill`: a bill",
        "Throws `IndexOutOfBoundsException` if there is no such bill"})
    static void billsForStateOf() {
        CHECKS.takesEachBill((x, bill) -> x.stateOf(bill));
    }

    // ---- promise 16, left

    @Sentence(of = "Promise 16", says = {"Returns what is left of a bill to pay.", "Returns the amount."})
    static void leftOfBills() {
        CollectionsEngine x = Runs.states();
        for (int bill : Checks.range(OPEN, WRITTEN_OFF)) {
            CHECKS.due(100 + bill, x.left(bill));
        }
        CHECKS.due(0, x.left(PAID));
        x.pay(PROMISED, 3);
        CHECKS.due(101, x.left(PROMISED));
        x.pay(WRITTEN_OFF, 104);
        CHECKS.due(1, x.left(WRITTEN_OFF));
        x.pay(WRITTEN_OFF, 1);
        CHECKS.due(0, x.left(WRITTEN_OFF));
        x.outcome(TRYING, SUCCESS);
        CHECKS.due(0, x.left(TRYING));
    }

    @Sentence(of = "Promise 16", says = {"`bill`: a bill",
        "Throws `IndexOutOfBoundsException` if there is no such bill"})
    static void billsForLeft() {
        CHECKS.takesEachBill((x, bill) -> x.left(bill));
    }

    // ---- promise 17, tries

    @Sentence(of = "Promise 17", says = {"Returns how often a bill was tried.", "Returns how often."})
    static void triesOfBills() {
        CollectionsEngine x = Runs.made(2);
        CHECKS.due(0, x.tries(0));
        x.promise(1, 30);
        int[] due = {1, 2, 3, 4, 4, 4, 5, 5};
        for (int tries : due) {
            x.pass(1);
            CHECKS.due(tries, x.tries(0));
            CHECKS.due(0, x.tries(1));
        }
        x.pass(60);
        CHECKS.due(5, x.tries(0));
        CollectionsEngine paid = Runs.tried(1);
        paid.outcome(0, SUCCESS);
        CHECKS.due(1, paid.tries(0));
    }

    @Sentence(of = "Promise 17", says = {"`bill`: a bill",
        "Throws `IndexOutOfBoundsException` if there is no such bill"})
    static void billsForTries() {
        CHECKS.takesEachBill((x, bill) -> x.tries(bill));
    }

    // ---- promise 18, failures

    @Sentence(of = "Promise 18", says = {"Returns how many failures a bill had for a reason.", "Returns how many."})
    static void failuresOfBills() {
        int[][] due = {
            {0, 1, 0, 0}, {0, 0, 0, 2}, {0, 0, 1, 0}, {0, 0, 1, 0}, {1, 0, 0, 0}, {0, 0, 1, 0}, {0, 0, 0, 0},
        };
        for (int bill : Checks.range(OPEN, PAID)) {
            for (int reason : Checks.range(NO_MONEY, ERROR)) {
                CHECKS.answers(due[bill][reason - 1], Runs::states, x -> x.failures(bill, reason));
            }
        }
        CollectionsEngine x = Runs.tried(1);
        for (int count : Checks.range(1, 5)) {
            x.outcome(0, ERROR);
            CHECKS.due(count, x.failures(0, ERROR));
            x.pass(count == 4 ? 3 : 1);
        }
        CHECKS.due(GRACE, x.stateOf(0));
        CHECKS.due(5, x.failures(0, ERROR));
    }

    @Sentence(of = "Promise 18", says = {"`bill`: a bill", "`reason`: NO_MONEY, EXPIRED, BLOCKED or ERROR",
        "Throws `IndexOutOfBoundsException` if there is no such bill or reason"})
    static void billsAndReasonsForFailures() {
        for (int reason : Checks.range(NO_MONEY, ERROR)) {
            CHECKS.takesEachBill((x, bill) -> x.failures(bill, reason));
        }
        for (int reason : new int[] {SUCCESS, ERROR + 1, -1, MIN, MAX}) {
            CHECKS.refused(Runs::states, Checks.NO_INDEX, x -> x.failures(0, reason));
            CHECKS.refused(Runs::states, Checks.NO_INDEX, x -> x.failures(6, reason));
            CHECKS.refused(Runs::states, Checks.NO_INDEX, x -> x.failures(7, reason));
        }
    }

    // ---- promise 19, waitsFor

    @Sentence(of = "Promise 19", says = {
        "Returns the day that a bill waits for: the next try, or the end of its clock.",
        "Returns the day; NONE if it is TRYING, WRITTEN_OFF or PAID."})
    static void daysThatBillsWaitFor() {
        int[] due = {8, NONE, 61, 93, 31, NONE, NONE};
        for (int bill : Checks.range(OPEN, PAID)) {
            CHECKS.answers(due[bill], Runs::states, x -> x.waitsFor(bill));
        }
        for (int bill : new int[] {OPEN, GRACE, OVERDUE, PROMISED, WRITTEN_OFF}) {
            CollectionsEngine x = Runs.states();
            x.pay(bill, 100 + bill);
            CHECKS.due(NONE, x.waitsFor(bill));
        }
        CHECKS.answers(1, () -> Runs.made(1), x -> x.waitsFor(0));
    }

    @Sentence(of = "Promise 19", says = {"`bill`: a bill",
        "Throws `IndexOutOfBoundsException` if there is no such bill"})
    static void billsForWaitsFor() {
        CHECKS.takesEachBill((x, bill) -> x.waitsFor(bill));
    }

    // ---- promise 20, broken

    @Sentence(of = "Promise 20", says = {"Returns how many promises were broken for a bill.", "Returns how many."})
    static void brokenPromises() {
        CollectionsEngine x = Runs.made(2);
        CHECKS.due(0, x.broken(0));
        x.promise(0, 2);
        CHECKS.due(0, x.broken(0));
        x.pass(1);
        CHECKS.due(0, x.broken(0));
        x.pass(1);
        CHECKS.due(1, x.broken(0));
        x.promise(0, 1);
        CHECKS.due(1, x.broken(0));
        x.pass(1);
        CHECKS.due(2, x.broken(0));
        CHECKS.due(0, x.broken(1));
        x.pass(60);
        CHECKS.due(2, x.broken(0));
    }

    @Sentence(of = "Promise 20", says = "Returns how many promises were broken for a bill.")
    static void keptPromises() {
        CollectionsEngine x = Runs.made(1);
        x.promise(0, 5);
        x.pass(4);
        x.pay(0, 100);
        x.pass(10);
        CHECKS.due(0, x.broken(0));
        CHECKS.due(PAID, x.stateOf(0));
        CHECKS.due(0, x.tries(0));
    }

    @Sentence(of = "Promise 20", says = {"`bill`: a bill",
        "Throws `IndexOutOfBoundsException` if there is no such bill"})
    static void billsForBroken() {
        CHECKS.takesEachBill((x, bill) -> x.broken(bill));
    }

    // ---- promise 21, service

    /** A bill alone in its account, through all that its account's service can be. */
    @Sentence(of = "Promise 21", says = {"Returns the service of an account.", "Returns CUT, BASIC or FULL."})
    static void serviceOfAnAccount() {
        CollectionsEngine x = new CollectionsEngine();
        CHECKS.due(FULL, x.service(7));
        x.bill(7, 4);
        CHECKS.due(FULL, x.service(7));
        x.promise(0, 1);
        CHECKS.due(FULL, x.service(7));
        x.pass(2);
        CHECKS.due(FULL, x.service(7));
        x.outcome(0, BLOCKED);
        CHECKS.due(BASIC, x.service(7));
        x.promise(0, 1);
        CHECKS.due(BASIC, x.service(7));
        x.pass(1);
        CHECKS.due(BASIC, x.service(7));
        x.pass(10);
        CHECKS.due(CUT, x.service(7));
        x.pass(30);
        CHECKS.due(WRITTEN_OFF, x.stateOf(0));
        CHECKS.due(CUT, x.service(7));
        CHECKS.due(FULL, x.service(0));
        x.pay(0, 4);
        CHECKS.due(FULL, x.service(7));
    }

    @Sentence(of = "Promise 21", says = {"`account`: 0 to 7",
        "Throws `IndexOutOfBoundsException` if there is no such account"})
    static void accountsForService() {
        for (int account : Checks.range(0, 7)) {
            CHECKS.answers(FULL, CollectionsEngine::new, x -> x.service(account));
            CHECKS.answers(account < 2 ? account == 0 ? BASIC : CUT : FULL, Runs::states, x -> x.service(account));
        }
        for (int account : new int[] {-1, 8, MIN, MAX}) {
            CHECKS.refused(Runs::states, Checks.NO_INDEX, x -> x.service(account));
        }
    }

    // ---- promises 22 to 25, sums

    @Sentence(of = "Promise 22", says = "Returns the amounts of all bills, together.")
    static void billedTogether() {
        CHECKS.answers(0, CollectionsEngine::new, x -> x.billed());
        CHECKS.answers(721, Runs::states, x -> x.billed());
        CHECKS.answers(30, () -> Runs.writtenOff(30), x -> x.billed());
        CollectionsEngine x = new CollectionsEngine();
        for (int count : Checks.range(1, 30)) {
            x.bill(count % 8, 9999);
            CHECKS.due(9999 * count, x.billed());
        }
        x.pay(0, 9999);
        CHECKS.due(9999 * 30, x.billed());
    }

    @Sentence(of = "Promise 23", says = "Returns what has been paid of all bills, together.")
    static void paidTogether() {
        CHECKS.answers(0, CollectionsEngine::new, x -> x.paid());
        CollectionsEngine x = Runs.states();
        CHECKS.due(106, x.paid());
        x.pay(OPEN, 1);
        CHECKS.due(107, x.paid());
        x.pay(WRITTEN_OFF, 30);
        CHECKS.due(137, x.paid());
        x.outcome(TRYING, SUCCESS);
        CHECKS.due(238, x.paid());
        Runs.upTo(x, 300);
        CHECKS.due(238, x.paid());
        CollectionsEngine all = new CollectionsEngine();
        for (int bill : Checks.range(0, 29)) {
            all.bill(0, 9999);
            all.pay(bill, 9999);
        }
        CHECKS.due(9999 * 30, all.paid());
        CHECKS.due(0, all.broughtBack());
    }

    @Sentence(of = "Promise 24", says =
        "Returns what has been written off, together, when it was; payments behind that take nothing away.")
    static void writtenOffTogether() {
        CHECKS.answers(0, CollectionsEngine::new, x -> x.writtenOff());
        CHECKS.answers(0, () -> Runs.overdue(2), x -> x.writtenOff());
        CHECKS.answers(30, () -> Runs.writtenOff(0), x -> x.writtenOff());
        CHECKS.answers(30, () -> Runs.writtenOff(30), x -> x.writtenOff());
        CollectionsEngine x = Runs.states();
        CHECKS.due(105, x.writtenOff());
        x.pay(WRITTEN_OFF, 104);
        CHECKS.due(105, x.writtenOff());
        x.pay(WRITTEN_OFF, 1);
        CHECKS.due(105, x.writtenOff());
        x.pay(OVERDUE, 20);
        x.pay(GRACE, 102);
        Runs.upTo(x, 93);
        CHECKS.due(WRITTEN_OFF, x.stateOf(OVERDUE));
        CHECKS.due(105 + 83, x.writtenOff());
        x.pay(OVERDUE, 83);
        CHECKS.due(105 + 83, x.writtenOff());
    }

    @Sentence(of = "Promise 25", says = "Returns what has been paid of bills behind their write-off, together.")
    static void broughtBackTogether() {
        CHECKS.answers(0, CollectionsEngine::new, x -> x.broughtBack());
        CHECKS.answers(0, () -> Runs.writtenOff(0), x -> x.broughtBack());
        CHECKS.answers(1, () -> Runs.writtenOff(1), x -> x.broughtBack());
        CHECKS.answers(30, () -> Runs.writtenOff(30), x -> x.broughtBack());
        CollectionsEngine x = Runs.states();
        x.pay(OPEN, 100);
        x.pay(GRACE, 10);
        x.pay(OVERDUE, 20);
        x.pay(PROMISED, 30);
        x.outcome(TRYING, SUCCESS);
        CHECKS.due(0, x.broughtBack());
        x.pay(WRITTEN_OFF, 1);
        CHECKS.due(1, x.broughtBack());
        x.pay(WRITTEN_OFF, 104);
        CHECKS.due(105, x.broughtBack());
        Runs.upTo(x, 93);
        CHECKS.due(105, x.broughtBack());
        x.pay(OVERDUE, 40);
        CHECKS.due(145, x.broughtBack());
    }

    // ---- promise 26, leftIn

    @Sentence(of = "Promise 26", says = {"Returns what is left of all bills of an account in a state, together.",
        "Returns the amount."})
    static void leftInAState() {
        CollectionsEngine x = Runs.states();
        for (int state : Checks.range(OPEN, WRITTEN_OFF)) {
            CHECKS.due(state % 2 == 0 ? 100 + state : 0, x.leftIn(0, state));
            CHECKS.due(state % 2 == 1 ? 100 + state : 0, x.leftIn(1, state));
            CHECKS.due(0, x.leftIn(7, state));
        }
        CHECKS.due(0, x.leftIn(0, PAID));
        x.bill(0, 1000);
        CHECKS.due(1100, x.leftIn(0, OPEN));
        x.pay(7, 1);
        CHECKS.due(1099, x.leftIn(0, OPEN));
        x.pay(7, 999);
        CHECKS.due(100, x.leftIn(0, OPEN));
        CHECKS.due(0, x.leftIn(0, PAID));
        CollectionsEngine all = new CollectionsEngine();
        for (int count : Checks.range(1, 30)) {
            all.bill(7, 9999);
            CHECKS.due(9999 * count, all.leftIn(7, OPEN));
        }
    }

    @Sentence(of = "Promise 26", says = {"`account`: 0 to 7",
        "Throws `IndexOutOfBoundsException` if there is no such account"})
    static void accountsForLeftIn() {
        for (int account : Checks.range(0, 7)) {
            int written = account < 6 ? 4 : 3;
            CHECKS.answers(written, () -> Runs.writtenOff(0), x -> x.leftIn(account, WRITTEN_OFF));
        }
        for (int account : new int[] {-1, 8, MIN, MAX}) {
            CHECKS.refused(Runs::states, Checks.NO_INDEX, x -> x.leftIn(account, OPEN));
            CHECKS.refused(Runs::states, Checks.NO_INDEX, x -> x.leftIn(account, PAID + 1));
        }
    }

    @Sentence(of = "Promise 26", says = {"`state`: OPEN to PAID",
        "Throws `IllegalArgumentException` if there is no such state"})
    static void statesForLeftIn() {
        for (int state : Checks.range(OPEN, PAID)) {
            CHECKS.answers(0, CollectionsEngine::new, x -> x.leftIn(0, state));
        }
        for (int state : new int[] {NONE, PAID + 1, MIN, MAX}) {
            CHECKS.refused(Runs::states, Checks.NO_ARGUMENT, x -> x.leftIn(0, state));
            CHECKS.refused(Runs::states, Checks.NO_ARGUMENT, x -> x.leftIn(7, state));
        }
    }

    // ---- promises 27 and 28, events and event

    @Sentence(of = "Promise 27", says = "Returns how many events there were.")
    static void countOfEvents() {
        CHECKS.answers(0, CollectionsEngine::new, x -> x.events());
        CHECKS.answers(1, () -> Runs.made(1), x -> x.events());
        CHECKS.answers(30, () -> Runs.made(30), x -> x.events());
        CHECKS.answers(28, Runs::states, x -> x.events());
        for (int events : new int[] {390, 399, 400, 401, 420}) {
            CHECKS.answers(events, () -> Runs.writtenOff(events - 390), x -> x.events());
        }
    }

    @Sentence(of = "Promise 28", says = {"Returns an event.", "`back`: 0 for the latest one, 1 for the one before it,",
        "Returns 1000 times the day, 10 times the bill, and the state that it came into, together."})
    static void eventsOfEachKind() {
        int[] due = {3055, 3033, 3011, 2010, 2053, 2011, 1010, 1000, 1044, 1040, 1066, 1022, 1032, 1052,
            1061, 1051, 1041, 1031, 1021, 1011, 1001, 60, 50, 40, 30, 20, 10, 0};
        for (int back : Checks.range(0, due.length - 1)) {
            CHECKS.answers(due[back], Runs::states, x -> x.event(back));
        }
        CHECKS.answers(290, () -> Runs.made(30), x -> x.event(0));
        CHECKS.answers(60296, () -> Runs.writtenOff(30), x -> x.event(0));
    }

    @Sentence(of = "Promise 28", says = {"up to 399",
        "Throws `IndexOutOfBoundsException` if back is out of range, or there were fewer events"})
    static void eventsThatCanBeTold() {
        CHECKS.refused(CollectionsEngine::new, Checks.NO_INDEX, x -> x.event(0));
        for (int events : new int[] {1, 2, 30}) {
            CHECKS.answers(0, () -> Runs.made(events), x -> x.event(events - 1));
            for (int back : new int[] {events, events + 1, 399, 400, -1, MIN, MAX}) {
                CHECKS.refused(() -> Runs.made(events), Checks.NO_INDEX, x -> x.event(back));
            }
        }
        CHECKS.answers(0, () -> Runs.writtenOff(9), x -> x.event(398));
        CHECKS.refused(() -> Runs.writtenOff(9), Checks.NO_INDEX, x -> x.event(399));
        for (int paid : new int[] {10, 11, 30}) {
            CHECKS.answers(10 * (paid - 10), () -> Runs.writtenOff(paid), x -> x.event(399));
            for (int back : new int[] {400, 401, 420, -1, MIN, MAX}) {
                CHECKS.refused(() -> Runs.writtenOff(paid), Checks.NO_INDEX, x -> x.event(back));
            }
        }
    }

    // ---- promise 29, stateAt

    @Sentence(of = "Promise 29", says = {"Returns the state of a bill at the end of a day,",
        "Returns the state that it came into last, up to that day;"})
    static void statesAtDays() {
        int[] written = {OPEN, GRACE, OVERDUE, WRITTEN_OFF};
        int[] tried = {OPEN, OPEN, OPEN, TRYING};
        int[] promised = {OPEN, PROMISED, PROMISED, PROMISED};
        int[] paid = {OPEN, PAID, PAID, PAID};
        for (int day : Checks.range(0, 3)) {
            CHECKS.answers(written[day], Runs::states, x -> x.stateAt(WRITTEN_OFF, day));
            CHECKS.answers(tried[day], Runs::states, x -> x.stateAt(TRYING, day));
            CHECKS.answers(promised[day], Runs::states, x -> x.stateAt(PROMISED, day));
            CHECKS.answers(paid[day], Runs::states, x -> x.stateAt(PAID, day));
        }
        CollectionsEngine x = Runs.upTo(Runs.states(), 40);
        CHECKS.due(PROMISED, x.stateAt(PROMISED, 30));
        CHECKS.due(OPEN, x.stateAt(PROMISED, 31));
        CHECKS.due(WRITTEN_OFF, x.stateAt(WRITTEN_OFF, 40));
    }

    /** The days of {@link Runs#writtenOff}: what came last on each of them, with all events still told. */
    @Sentence(of = "Promise 29", says = "Returns the state that it came into last, up to that day;")
    static void statesAtEachDay() {
        CollectionsEngine x = Runs.writtenOff(0);
        for (int day : Checks.range(0, 60)) {
            int due = day < 7 ? OPEN : day < 17 ? GRACE : day < 47 ? OVERDUE : WRITTEN_OFF;
            CHECKS.due(due, x.stateAt(0, day));
            CHECKS.due(due, x.stateAt(13, day));
            CHECKS.due(due, x.stateAt(29, day));
        }
    }

    @Sentence(of = "Promise 29", says = {"by the events that can be told.", "NONE if no such event can be told."})
    static void statesByToldEvents() {
        CHECKS.answers(OPEN, () -> Runs.writtenOff(10), x -> x.stateAt(0, 0));
        CHECKS.answers(NONE, () -> Runs.writtenOff(11), x -> x.stateAt(0, 0));
        CHECKS.answers(OPEN, () -> Runs.writtenOff(11), x -> x.stateAt(1, 0));
        CHECKS.answers(OPEN, () -> Runs.writtenOff(11), x -> x.stateAt(0, 1));
        CHECKS.answers(NONE, () -> Runs.writtenOff(30), x -> x.stateAt(19, 0));
        CHECKS.answers(OPEN, () -> Runs.writtenOff(30), x -> x.stateAt(20, 0));
        CHECKS.answers(WRITTEN_OFF, () -> Runs.writtenOff(30), x -> x.stateAt(29, 59));
        CHECKS.answers(PAID, () -> Runs.writtenOff(30), x -> x.stateAt(29, 60));
    }

    @Sentence(of = "Promise 29", says = "NONE if no such event can be told.")
    static void noStateYet() {
        CollectionsEngine x = Runs.upTo(new CollectionsEngine(), 3);
        x.bill(0, 1);
        CHECKS.due(NONE, x.stateAt(0, 0));
        CHECKS.due(NONE, x.stateAt(0, 2));
        CHECKS.due(OPEN, x.stateAt(0, 3));
    }

    /** Bill 0 is paid at once, and the others have 15 events each: 437 in all, 37 of which can't be told. */
    @Sentence(of = "Promise 29", says = "NONE if no such event can be told.")
    static void noStateAnyMore() {
        CollectionsEngine x = new CollectionsEngine();
        for (int bill : Checks.range(0, 29)) {
            x.bill(7, 1);
        }
        x.pay(0, 1);
        for (int bill : Checks.range(1, 29)) {
            x.promise(bill, 1);
        }
        x.pass(60);
        CHECKS.due(2 + 29 * 15, x.events());
        CHECKS.due(PAID, x.stateOf(0));
        CHECKS.due(NONE, x.stateAt(0, 60));
        CHECKS.due(NONE, x.stateAt(6, 0));
        CHECKS.due(OPEN, x.stateAt(6, 1));
        CHECKS.due(PROMISED, x.stateAt(7, 0));
    }

    @Sentence(of = "Promise 29", says = {"`bill`: a bill",
        "Throws `IndexOutOfBoundsException` if there is no such bill"})
    static void billsForStateAt() {
        CHECKS.takesEachBill((x, bill) -> x.stateAt(bill, 0));
        CHECKS.takesEachBill((x, bill) -> x.stateAt(bill, -1));
    }

    @Sentence(of = "Promise 29", says = {"`day`: 0 up to today",
        "Throws `IllegalArgumentException` if day is out of range"})
    static void daysForStateAt() {
        CHECKS.answers(OPEN, () -> Runs.made(1), x -> x.stateAt(0, 0));
        CHECKS.refused(() -> Runs.made(1), Checks.NO_ARGUMENT, x -> x.stateAt(0, 1));
        CHECKS.answers(OPEN, Runs::states, x -> x.stateAt(0, 0));
        CHECKS.answers(OPEN, Runs::states, x -> x.stateAt(0, 3));
        for (int day : new int[] {-1, 4, MIN, MAX}) {
            CHECKS.refused(Runs::states, Checks.NO_ARGUMENT, x -> x.stateAt(0, day));
            CHECKS.refused(Runs::states, Checks.NO_ARGUMENT, x -> x.stateAt(6, day));
        }
    }
}
