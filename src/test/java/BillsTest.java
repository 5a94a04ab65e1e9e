/** Promises 7 to 11: making bills, telling outcomes, paying, promising, and letting days pass. */
public final class BillsTest implements Names {
    private static final Checks CHECKS = new Checks();

    public static void main(String[] args) {
        CHECKS.run(BillsTest.class);
    }

    // ---- promise 7, bill

    @Sentence(of = "Promise 7", says = "Makes a bill.")
    static void newBill() {
        CollectionsEngine x = Runs.made(1);
        x.bill(3, 77);
        CHECKS.due(2, x.bills());
        CHECKS.due(OPEN, x.stateOf(1));
        CHECKS.due(77, x.left(1));
        CHECKS.due(0, x.tries(1));
        CHECKS.due(0, x.broken(1));
        for (int reason : Checks.range(NO_MONEY, ERROR)) {
            CHECKS.due(0, x.failures(1, reason));
        }
        CHECKS.due(1, x.waitsFor(1));
        CHECKS.due(177, x.billed());
        CHECKS.due(0, x.paid());
        CHECKS.due(77, x.leftIn(3, OPEN));
        CHECKS.due(2, x.events());
        CHECKS.due(10, x.event(0));
        CHECKS.due(100, x.left(0));
    }

    @Sentence(of = "Promise 7", says = {"`account`: 0 to 7",
        "Throws `IndexOutOfBoundsException` if there is no such account"})
    static void accountsForBills() {
        for (int account : Checks.range(0, 7)) {
            CollectionsEngine x = new CollectionsEngine();
            CHECKS.due(0, x.bill(account, 9));
            for (int other : Checks.range(0, 7)) {
                CHECKS.due(other == account ? 9 : 0, x.leftIn(other, OPEN));
            }
        }
        for (int account : new int[] {-1, 8, MIN, MAX}) {
            CHECKS.refused(CollectionsEngine::new, Checks.NO_INDEX, x -> x.bill(account, 9));
        }
    }

    @Sentence(of = "Promise 7", says = {"`amount`: 1 to 9999",
        "Throws `IllegalArgumentException` if amount is out of range"})
    static void amountsOfBills() {
        for (int amount : new int[] {1, 2, 9998, 9999}) {
            CollectionsEngine x = new CollectionsEngine();
            CHECKS.due(0, x.bill(0, amount));
            CHECKS.due(amount, x.left(0));
            CHECKS.due(amount, x.billed());
        }
        for (int amount : new int[] {0, 10000, -1, MIN, MAX}) {
            CHECKS.refused(CollectionsEngine::new, Checks.NO_ARGUMENT, x -> x.bill(0, amount));
            CHECKS.refused(() -> Runs.made(29), Checks.NO_ARGUMENT, x -> x.bill(7, amount));
        }
    }

    @Sentence(of = "Promise 7", says = {"Returns its number.", "Throws `IllegalStateException` if there are 30 bills"})
    static void thirtyBills() {
        CollectionsEngine x = new CollectionsEngine();
        for (int number : Checks.range(0, 29)) {
            CHECKS.due(number, x.bill(number % 8, 9999));
        }
        CHECKS.due(30, x.bills());
        CHECKS.due(30 * 9999, x.billed());
        CHECKS.refused(() -> Runs.made(30), Checks.NO_STATE, each -> each.bill(0, 1));
        CHECKS.refused(() -> Runs.made(30), Checks.NO_STATE, each -> each.bill(7, 9999));
        CHECKS.refused(() -> Runs.writtenOff(0), Checks.NO_STATE, each -> each.bill(0, 1));
        CHECKS.refused(() -> Runs.writtenOff(30), Checks.NO_STATE, each -> each.bill(0, 1));
        CHECKS.answers(29, () -> Runs.made(29), each -> each.bill(0, 1));
    }

    // ---- promise 8, outcome

    @Sentence(of = "Promise 8", says = {"Tells the outcome of a charge.", "Returns the state of the bill then."})
    static void outcomeOfEachKind() {
        int[] states = {PAID, OPEN, OPEN, GRACE, OPEN};
        int[] waits = {NONE, 4, 8, 11, 2};
        for (int outcome : Checks.range(SUCCESS, ERROR)) {
            CollectionsEngine x = Runs.tried(2);
            CHECKS.due(states[outcome], x.outcome(0, outcome));
            CHECKS.due(states[outcome], x.stateOf(0));
            CHECKS.due(waits[outcome], x.waitsFor(0));
            CHECKS.due(TRYING, x.stateOf(1));
            CHECKS.due(outcome == SUCCESS ? 0 : 100, x.left(0));
            CHECKS.due(outcome == SUCCESS ? 100 : 0, x.paid());
            CHECKS.due(1, x.tries(0));
            for (int reason : Checks.range(NO_MONEY, ERROR)) {
                CHECKS.due(reason == outcome ? 1 : 0, x.failures(0, reason));
                CHECKS.due(0, x.failures(1, reason));
            }
            CHECKS.due(5, x.events());
            CHECKS.due(1000 + states[outcome], x.event(0));
        }
    }

    @Sentence(of = "Promise 8", says = {"`bill`: a bill",
        "Throws `IndexOutOfBoundsException` if there is no such bill"})
    static void billsForOutcomes() {
        CHECKS.takesEachBill((x, bill) -> x.outcome(bill, SUCCESS));
        CHECKS.takesEachBill((x, bill) -> x.outcome(bill, ERROR));
    }

    @Sentence(of = "Promise 8", says = {"`outcome`: SUCCESS to ERROR",
        "Throws `IllegalArgumentException` if outcome is out of range"})
    static void outcomesOutOfRange() {
        for (int outcome : Checks.range(SUCCESS, ERROR)) {
            CHECKS.answers(false, () -> Runs.tried(1), x -> x.outcome(0, outcome) == TRYING);
        }
        for (int outcome : new int[] {SUCCESS - 1, ERROR + 1, 6, MIN, MAX}) {
            CHECKS.refused(() -> Runs.tried(1), Checks.NO_ARGUMENT, x -> x.outcome(0, outcome));
        }
    }

    @Sentence(of = "Promise 8", says = "Throws `IllegalStateException` if the bill is not TRYING")
    static void outcomeOfNoCharge() {
        for (int bill : new int[] {OPEN, GRACE, OVERDUE, PROMISED, WRITTEN_OFF, PAID}) {
            for (int outcome : Checks.range(SUCCESS, ERROR)) {
                CHECKS.refused(Runs::states, Checks.NO_STATE, x -> x.outcome(bill, outcome));
            }
        }
        CHECKS.answers(PAID, Runs::states, x -> x.outcome(TRYING, SUCCESS));
        CHECKS.refused(() -> Runs.made(1), Checks.NO_STATE, x -> x.outcome(0, SUCCESS));
    }

    @Sentence(of = "Promise 8", says = "Throws `IllegalStateException` if the bill is not TRYING")
    static void outcomeIsToldOnce() {
        for (int outcome : Checks.range(SUCCESS, ERROR)) {
            Checks.Maker told = () -> {
                CollectionsEngine x = Runs.tried(1);
                x.outcome(0, outcome);
                return x;
            };
            CHECKS.refused(told, Checks.NO_STATE, x -> x.outcome(0, SUCCESS));
            CHECKS.refused(told, Checks.NO_STATE, x -> x.outcome(0, outcome));
        }
    }

    // ---- promise 9, pay

    private static final int[] PAYABLE = {OPEN, GRACE, OVERDUE, PROMISED, WRITTEN_OFF};

    @Sentence(of = "Promise 9", says = {"Pays some of a bill by hand.", "Returns what is left to pay then."})
    static void payInEachState() {
        for (int bill : PAYABLE) {
            CollectionsEngine x = Runs.states();
            int events = x.events();
            int waits = x.waitsFor(bill);
            CHECKS.due(60 + bill, x.pay(bill, 40));
            CHECKS.due(1, x.pay(bill, 59 + bill));
            CHECKS.due(1, x.left(bill));
            CHECKS.due(bill, x.stateOf(bill));
            CHECKS.due(waits, x.waitsFor(bill));
            CHECKS.due(events, x.events());
            CHECKS.due(0, x.pay(bill, 1));
            CHECKS.due(0, x.left(bill));
            CHECKS.due(PAID, x.stateOf(bill));
            CHECKS.due(NONE, x.waitsFor(bill));
            CHECKS.due(events + 1, x.events());
            CHECKS.due(3000 + 10 * bill + PAID, x.event(0));
            CHECKS.due(106 + 100 + bill, x.paid());
            CHECKS.due(bill == WRITTEN_OFF ? 105 : 0, x.broughtBack());
        }
    }

    @Sentence(of = "Promise 9", says = {"`bill`: a bill",
        "Throws `IndexOutOfBoundsException` if there is no such bill"})
    static void billsForPayments() {
        CHECKS.takesEachBill((x, bill) -> x.pay(bill, 1));
        for (int bill : new int[] {0, 29}) {
            CHECKS.answers(99, () -> Runs.made(30), x -> x.pay(bill, 1));
        }
    }

    @Sentence(of = "Promise 9", says = {"`amount`: 1 to 9999",
        "Throws `IllegalArgumentException` if amount is out of range"})
    static void amountsOfPayments() {
        Checks.Maker maker = () -> {
            CollectionsEngine x = new CollectionsEngine();
            x.bill(0, 9999);
            return x;
        };
        for (int amount : new int[] {1, 2, 9998, 9999}) {
            CHECKS.answers(9999 - amount, maker, x -> x.pay(0, amount));
        }
        for (int amount : new int[] {0, 10000, -1, MIN, MAX}) {
            CHECKS.refused(maker, Checks.NO_ARGUMENT, x -> x.pay(0, amount));
        }
    }

    @Sentence(of = "Promise 9", says =
        "Throws `IllegalStateException` if the bill is TRYING or PAID, or amount is more than what is left")
    static void paymentsThatCannotBe() {
        for (int bill : new int[] {TRYING, PAID}) {
            for (int amount : new int[] {1, 101, 9999}) {
                CHECKS.refused(Runs::states, Checks.NO_STATE, x -> x.pay(bill, amount));
            }
        }
        for (int bill : PAYABLE) {
            CHECKS.answers(1, Runs::states, x -> x.pay(bill, 99 + bill));
            CHECKS.answers(0, Runs::states, x -> x.pay(bill, 100 + bill));
            for (int amount : new int[] {101 + bill, 9999}) {
                CHECKS.refused(Runs::states, Checks.NO_STATE, x -> x.pay(bill, amount));
            }
            Checks.Maker oneLeft = () -> {
                CollectionsEngine x = Runs.states();
                x.pay(bill, 99 + bill);
                return x;
            };
            CHECKS.answers(0, oneLeft, x -> x.pay(bill, 1));
            CHECKS.refused(oneLeft, Checks.NO_STATE, x -> x.pay(bill, 2));
        }
    }

    // ---- promise 10, promise

    private static final int[] HOLDABLE = {OPEN, GRACE, OVERDUE};

    @Sentence(of = "Promise 10", says = {"Takes a promise to pay: the bill is PROMISED.",
        "Returns the day of the end."})
    static void promiseInEachState() {
        for (int bill : HOLDABLE) {
            CollectionsEngine x = Runs.states();
            int events = x.events();
            CHECKS.due(7, x.promise(bill, 4));
            CHECKS.due(PROMISED, x.stateOf(bill));
            CHECKS.due(7, x.waitsFor(bill));
            CHECKS.due(events + 1, x.events());
            CHECKS.due(3000 + 10 * bill + PROMISED, x.event(0));
            CHECKS.due(0, x.broken(bill));
            CHECKS.due(100 + bill, x.left(bill));
        }
    }

    @Sentence(of = "Promise 10", says = {"`bill`: a bill",
        "Throws `IndexOutOfBoundsException` if there is no such bill"})
    static void billsForPromises() {
        CHECKS.takesEachBill((x, bill) -> x.promise(bill, 1));
        for (int bill : new int[] {0, 29}) {
            CHECKS.answers(1, () -> Runs.made(30), x -> x.promise(bill, 1));
        }
    }

    @Sentence(of = "Promise 10", says = {"`days`: 1 to 30: until its end",
        "Throws `IllegalArgumentException` if days is out of range"})
    static void daysOfPromises() {
        for (int bill : HOLDABLE) {
            for (int days : new int[] {1, 2, 29, 30}) {
                CollectionsEngine x = Runs.states();
                CHECKS.due(3 + days, x.promise(bill, days));
                Runs.upTo(x, 2 + days);
                CHECKS.due(PROMISED, x.stateOf(bill));
                x.pass(1);
                CHECKS.due(bill, x.stateOf(bill));
            }
            for (int days : new int[] {0, 31, -1, MIN, MAX}) {
                CHECKS.refused(Runs::states, Checks.NO_ARGUMENT, x -> x.promise(bill, days));
            }
        }
    }

    @Sentence(of = "Promise 10", says = "Throws `IllegalStateException` if the bill is not OPEN, in GRACE or OVERDUE,")
    static void promisesForOtherStates() {
        for (int bill : new int[] {TRYING, PROMISED, WRITTEN_OFF, PAID}) {
            CHECKS.refused(Runs::states, Checks.NO_STATE, x -> x.promise(bill, 1));
            CHECKS.refused(Runs::states, Checks.NO_STATE, x -> x.promise(bill, 30));
        }
        for (int bill : HOLDABLE) {
            CHECKS.answers(4, Runs::states, x -> x.promise(bill, 1));
        }
    }

    /** What a promise keeps of the state ahead stays kept, when another one is refused on a later day. */
    @Sentence(of = "Promise 10", says = "Throws `IllegalStateException` if the bill is not OPEN, in GRACE or OVERDUE,")
    static void promisesForPromisedBills() {
        for (int bill : HOLDABLE) {
            Checks.Maker held = () -> {
                CollectionsEngine x = Runs.states();
                x.promise(bill, 5);
                x.pass(2);
                return x;
            };
            CHECKS.answers(PROMISED, held, x -> x.stateOf(bill));
            CHECKS.refused(held, Checks.NO_STATE, x -> x.promise(bill, 1));
            CHECKS.refused(held, Checks.NO_STATE, x -> x.promise(bill, 30));
            CHECKS.refused(held, Checks.NO_ARGUMENT, x -> x.promise(bill, 31));
            CHECKS.refused(held, Checks.NO_STATE, x -> x.outcome(bill, SUCCESS));
            CHECKS.refused(held, Checks.NO_STATE, x -> x.pay(bill, 101 + bill));
        }
    }

    /** On day 7, a Monday, behind two broken promises, taken in the states of bills as {@link Runs#states} has them. */
    private static CollectionsEngine promisedTwice(int bill) {
        CollectionsEngine x = Runs.states();
        x.promise(bill, 3);
        x.pass(3);
        x.promise(bill, 1);
        x.pass(1);
        return x;
    }

    @Sentence(of = "Promise 10", says = "or two promises were taken for it")
    static void twoPromises() {
        for (int bill : HOLDABLE) {
            CHECKS.answers(bill, () -> promisedTwice(bill), x -> x.stateOf(bill));
            CHECKS.answers(2, () -> promisedTwice(bill), x -> x.broken(bill));
            CHECKS.refused(() -> promisedTwice(bill), Checks.NO_STATE, x -> x.promise(bill, 1));
            CHECKS.refused(() -> promisedTwice(bill), Checks.NO_STATE, x -> x.promise(bill, 30));
            int other = bill == OPEN ? GRACE : OPEN;
            CHECKS.answers(8, () -> promisedTwice(bill), x -> x.promise(other, 1));
        }
    }

    /** Each state of a bill behind its second promise, which was taken while it was OPEN. */
    @Sentence(of = "Promise 10", says = "or two promises were taken for it")
    static void twoPromisesStayTwo() {
        Checks.Maker grace = () -> {
            CollectionsEngine x = promisedTwice(OPEN);
            x.pass(1);
            x.outcome(OPEN, BLOCKED);
            return x;
        };
        CHECKS.answers(GRACE, grace, x -> x.stateOf(OPEN));
        CHECKS.refused(grace, Checks.NO_STATE, x -> x.promise(OPEN, 1));
        Checks.Maker overdue = () -> Runs.upTo(grace.make(), 18);
        CHECKS.answers(OVERDUE, overdue, x -> x.stateOf(OPEN));
        CHECKS.refused(overdue, Checks.NO_STATE, x -> x.promise(OPEN, 1));
    }

    @Sentence(of = "Promise 10", says = "or two promises were taken for it")
    static void refusedPromisesAreNotTaken() {
        CollectionsEngine x = Runs.made(1);
        CHECKS.due(Checks.NO_ARGUMENT.getName(), Checks.answer(x, each -> each.promise(0, 31)));
        CHECKS.due(Checks.NO_ARGUMENT.getName(), Checks.answer(x, each -> each.promise(0, 0)));
        CHECKS.due(5, x.promise(0, 5));
        CHECKS.due(Checks.NO_STATE.getName(), Checks.answer(x, each -> each.promise(0, 5)));
        x.pass(5);
        CHECKS.due(OPEN, x.stateOf(0));
        CHECKS.due(6, x.promise(0, 1));
    }

    // ---- promise 11, pass

    @Sentence(of = "Promise 11", says = {"Lets days pass.", "`days`: 1 to 60",
        "Throws `IllegalArgumentException` if days is out of range"})
    static void daysThatPass() {
        for (int days : new int[] {1, 2, 59, 60}) {
            CHECKS.answers(0, CollectionsEngine::new, x -> x.pass(days));
            CollectionsEngine x = new CollectionsEngine();
            x.pass(days);
            CHECKS.due(days, x.today());
            x.pass(days);
            CHECKS.due(2 * days, x.today());
        }
        for (int days : new int[] {0, 61, -1, MIN, MAX}) {
            CHECKS.refused(CollectionsEngine::new, Checks.NO_ARGUMENT, x -> x.pass(days));
            CHECKS.refused(Runs::states, Checks.NO_ARGUMENT, x -> x.pass(days));
        }
    }

    @Sentence(of = "Promise 11", says = "Lets days pass.")
    static void daysPassOneByOne() {
        for (int days : new int[] {2, 7, 59, 60}) {
            CollectionsEngine atOnce = Runs.states();
            CollectionsEngine oneByOne = Runs.states();
            int tries = 0;
            for (int i = 0; i < days; i++) {
                tries += oneByOne.pass(1);
            }
            CHECKS.due(tries, atOnce.pass(days));
            CHECKS.due(oneByOne.events(), atOnce.events());
            for (int back : Checks.range(0, oneByOne.events() - 1)) {
                CHECKS.due(oneByOne.event(back), atOnce.event(back));
            }
        }
    }

    @Sentence(of = "Promise 11", says = "Returns how often a bill became TRYING in them.")
    static void countOfTries() {
        CHECKS.answers(0, CollectionsEngine::new, x -> x.pass(60));
        CHECKS.answers(1, () -> Runs.made(1), x -> x.pass(1));
        CHECKS.answers(30, () -> Runs.made(30), x -> x.pass(1));
        CHECKS.answers(4, () -> Runs.made(1), x -> x.pass(6));
        CHECKS.answers(5, () -> Runs.made(1), x -> x.pass(7));
        CHECKS.answers(5, () -> Runs.made(1), x -> x.pass(60));
        CHECKS.answers(150, () -> Runs.made(30), x -> x.pass(60));
        CHECKS.answers(0, () -> Runs.inGrace(60, 1), x -> x.pass(60));
        CHECKS.answers(1, Runs::states, x -> x.pass(1));
        CHECKS.answers(3, Runs::states, x -> x.pass(5));
        CollectionsEngine x = Runs.made(1);
        CHECKS.due(1, x.pass(1));
        x.outcome(0, NO_MONEY);
        CHECKS.due(0, x.pass(2));
        CHECKS.due(1, x.pass(1));
        CHECKS.due(2, x.tries(0));
    }
}
