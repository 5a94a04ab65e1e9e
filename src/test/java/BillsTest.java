/** Promises 7 to 11: making bills, telling outcomes, paying, promising, and letting days pass. */
public final class BillsTest {
    private static final int MIN = Integer.MIN_VALUE;
    private static final int MAX = Integer.MAX_VALUE;
    private static final Checks CHECKS = new Checks();

    public static void main(String[] args) {
        bill();
        billOnAWeekend();
        thirtyBills();
        outcome();
        firstGaps();
        outcomeRefused();
        pay();
        payBehindAWriteOff();
        payRefused();
        promise();
        promiseBrokenInEachState();
        promiseKept();
        twoPromises();
        promiseRefused();
        pass();
        passGivesErrorToTheUnanswered();
        passInOrder();
        passRefused();
        CHECKS.end();
    }

    private static void bill() {
        CHECKS.begin("7 bill");
        CollectionsEngine x = new CollectionsEngine();
        CHECKS.due(0, x.bill(0, 1));
        CHECKS.due(1, x.bill(7, 9999));
        CHECKS.due(2, x.bills());
        CHECKS.due(CollectionsEngine.OPEN, x.stateOf(1));
        CHECKS.due(9999, x.left(1));
        CHECKS.due(1, x.left(0));
        CHECKS.due(1, x.waitsFor(1));
        CHECKS.due(9999, x.leftIn(7, CollectionsEngine.OPEN));
        CHECKS.due(2, x.events());
        CHECKS.due(10, x.event(0));
        for (int account : new int[] {-1, 8, MIN, MAX}) {
            CHECKS.refused(x, Checks.NO_INDEX, () -> x.bill(account, 5));
            CHECKS.refused(x, Checks.NO_INDEX, () -> x.bill(account, 0));
        }
        for (int amount : new int[] {0, 10000, -1, MIN, MAX}) {
            CHECKS.refused(x, Checks.NO_ARGUMENT, () -> x.bill(3, amount));
        }
        CHECKS.due(2, x.bill(3, 5));
    }

    private static void billOnAWeekend() {
        CHECKS.begin("7 bill on other days");
        CollectionsEngine x = new CollectionsEngine();
        x.pass(4);
        x.bill(0, 1);
        CHECKS.due(7, x.waitsFor(0));
        x.addHoliday(7);
        x.addHoliday(8);
        x.pass(1);
        x.bill(0, 1);
        CHECKS.due(9, x.waitsFor(1));
        CHECKS.due(7, x.waitsFor(0));
        CHECKS.due(5010, x.event(0));
    }

    private static void thirtyBills() {
        CHECKS.begin("7 bill, thirty of them");
        CollectionsEngine x = new CollectionsEngine();
        for (int bill = 0; bill < 30; bill++) {
            CHECKS.due(bill, x.bill(bill % 8, bill + 1));
        }
        CHECKS.refused(x, Checks.NO_STATE, () -> x.bill(0, 1));
        CHECKS.refused(x, Checks.NO_ARGUMENT, () -> x.bill(0, 0));
        CHECKS.refused(x, Checks.NO_INDEX, () -> x.bill(8, 0));
        CHECKS.due(30, x.pass(1));
        x.outcome(29, CollectionsEngine.SUCCESS);
        CHECKS.refused(x, Checks.NO_STATE, () -> x.bill(0, 1));
        CHECKS.due(30, x.bills());
        CHECKS.due(465, x.billed());
    }

    private static void outcome() {
        CHECKS.begin("8 outcome");
        CollectionsEngine x = Runs.tried(5);
        CHECKS.due(CollectionsEngine.PAID, x.outcome(0, CollectionsEngine.SUCCESS));
        CHECKS.due(0, x.left(0));
        CHECKS.due(100, x.paid());
        CHECKS.due(CollectionsEngine.OPEN, x.outcome(1, CollectionsEngine.NO_MONEY));
        CHECKS.due(4, x.waitsFor(1));
        CHECKS.due(CollectionsEngine.OPEN, x.outcome(2, CollectionsEngine.EXPIRED));
        CHECKS.due(8, x.waitsFor(2));
        CHECKS.due(CollectionsEngine.GRACE, x.outcome(3, CollectionsEngine.BLOCKED));
        CHECKS.due(11, x.waitsFor(3));
        CHECKS.due(CollectionsEngine.OPEN, x.outcome(4, CollectionsEngine.ERROR));
        CHECKS.due(2, x.waitsFor(4));
        CHECKS.due(1040, x.event(0));
        CHECKS.due(1006, x.event(4));
        CHECKS.due(100, x.paid());
        CHECKS.due(1, x.pass(1));
        x.addHoliday(3);
        CHECKS.due(CollectionsEngine.OPEN, x.outcome(4, CollectionsEngine.NO_MONEY));
        CHECKS.due(7, x.waitsFor(4));
    }

    /** The row of a reason counts its own failures alone. */
    private static void firstGaps() {
        CHECKS.begin("8 outcome, first gaps");
        int[][] gaps = {{}, {3, 5, 7}, {7, 7}, {}, {1, 1, 1, 1}};
        for (int reason = CollectionsEngine.NO_MONEY; reason <= CollectionsEngine.ERROR; reason++) {
            CollectionsEngine x = new CollectionsEngine();
            x.setWeekday(5, true);
            x.setWeekday(6, true);
            x.bill(0, 5);
            x.pass(1);
            int other = reason == CollectionsEngine.ERROR ? CollectionsEngine.NO_MONEY : CollectionsEngine.ERROR;
            x.outcome(0, other);
            x.pass(gaps[other][0]);
            for (int gap : gaps[reason]) {
                CHECKS.due(CollectionsEngine.OPEN, x.outcome(0, reason));
                CHECKS.due(x.today() + gap, x.waitsFor(0));
                CHECKS.due(1, x.pass(gap));
            }
            CHECKS.due(CollectionsEngine.GRACE, x.outcome(0, reason));
            CHECKS.due(x.today() + 10, x.waitsFor(0));
            CHECKS.due(gaps[reason].length + 1, x.failures(0, reason));
            CHECKS.due(gaps[reason].length + 2, x.tries(0));
        }
    }

    private static void outcomeRefused() {
        CHECKS.begin("8 outcome, refused");
        CollectionsEngine x = Runs.states();
        for (int bill : new int[] {-1, 7, 30, MIN, MAX}) {
            CHECKS.refused(x, Checks.NO_INDEX, () -> x.outcome(bill, CollectionsEngine.SUCCESS));
            CHECKS.refused(x, Checks.NO_INDEX, () -> x.outcome(bill, 5));
        }
        for (int outcome : new int[] {-1, 5, MIN, MAX}) {
            CHECKS.refused(x, Checks.NO_ARGUMENT, () -> x.outcome(CollectionsEngine.TRYING, outcome));
            CHECKS.refused(x, Checks.NO_ARGUMENT, () -> x.outcome(CollectionsEngine.OPEN, outcome));
        }
        for (int state = CollectionsEngine.OPEN; state <= CollectionsEngine.PAID; state++) {
            int bill = state;
            CHECKS.due(state, x.stateOf(bill));
            if (state != CollectionsEngine.TRYING) {
                CHECKS.refused(x, Checks.NO_STATE, () -> x.outcome(bill, CollectionsEngine.SUCCESS));
                CHECKS.refused(x, Checks.NO_STATE, () -> x.outcome(bill, CollectionsEngine.ERROR));
            }
        }
    }

    private static void pay() {
        CHECKS.begin("9 pay");
        CollectionsEngine x = Runs.states();
        int[] payable = {CollectionsEngine.OPEN, CollectionsEngine.GRACE, CollectionsEngine.OVERDUE,
            CollectionsEngine.PROMISED, CollectionsEngine.WRITTEN_OFF};
        int events = x.events();
        int paid = x.paid();
        for (int bill : payable) {
            int waits = x.waitsFor(bill);
            CHECKS.due(60 + bill, x.pay(bill, 40));
            CHECKS.due(bill, x.stateOf(bill));
            CHECKS.due(60 + bill, x.left(bill));
            CHECKS.due(waits, x.waitsFor(bill));
            CHECKS.due(1, x.pay(bill, 59 + bill));
            CHECKS.due(events, x.events());
            CHECKS.refused(x, Checks.NO_STATE, () -> x.pay(bill, 2));
            CHECKS.due(0, x.pay(bill, 1));
            CHECKS.due(CollectionsEngine.PAID, x.stateOf(bill));
            CHECKS.due(CollectionsEngine.NONE, x.waitsFor(bill));
            CHECKS.due(++events, x.events());
            CHECKS.due(paid += 100 + bill, x.paid());
            CHECKS.due(3000 + 10 * bill + CollectionsEngine.PAID, x.event(0));
        }
        CHECKS.due(105, x.broughtBack());
        x.pass(60);
        x.pass(60);
        for (int bill : payable) {
            CHECKS.due(CollectionsEngine.PAID, x.stateOf(bill));
        }
    }

    private static void payBehindAWriteOff() {
        CHECKS.begin("9 pay behind a write-off");
        CollectionsEngine x = Runs.states();
        x.pay(CollectionsEngine.WRITTEN_OFF, 5);
        CHECKS.due(CollectionsEngine.WRITTEN_OFF, x.stateOf(CollectionsEngine.WRITTEN_OFF));
        CHECKS.due(CollectionsEngine.CUT, x.service(1));
        x.pay(CollectionsEngine.WRITTEN_OFF, 100);
        CHECKS.due(CollectionsEngine.CUT, x.service(1));
        x.pay(CollectionsEngine.OVERDUE, 103);
        CHECKS.due(CollectionsEngine.FULL, x.service(1));
        CHECKS.due(105, x.writtenOff());
        CHECKS.due(105, x.broughtBack());
    }

    private static void payRefused() {
        CHECKS.begin("9 pay, refused");
        CollectionsEngine x = Runs.states();
        for (int bill : new int[] {-1, 7, 30, MIN, MAX}) {
            CHECKS.refused(x, Checks.NO_INDEX, () -> x.pay(bill, 1));
            CHECKS.refused(x, Checks.NO_INDEX, () -> x.pay(bill, 0));
        }
        for (int amount : new int[] {0, -1, 10000, MIN, MAX}) {
            CHECKS.refused(x, Checks.NO_ARGUMENT, () -> x.pay(CollectionsEngine.OPEN, amount));
            CHECKS.refused(x, Checks.NO_ARGUMENT, () -> x.pay(CollectionsEngine.PAID, amount));
        }
        for (int amount : new int[] {1, 101, 9999}) {
            CHECKS.refused(x, Checks.NO_STATE, () -> x.pay(CollectionsEngine.TRYING, amount));
            CHECKS.refused(x, Checks.NO_STATE, () -> x.pay(CollectionsEngine.PAID, amount));
        }
        for (int amount : new int[] {101, 9999}) {
            CHECKS.refused(x, Checks.NO_STATE, () -> x.pay(CollectionsEngine.OPEN, amount));
        }
    }

    private static void promise() {
        CHECKS.begin("10 promise");
        CollectionsEngine x = Runs.states();
        int[] holdable = {CollectionsEngine.OPEN, CollectionsEngine.GRACE, CollectionsEngine.OVERDUE};
        for (int bill : holdable) {
            CHECKS.due(33 - bill, x.promise(bill, 30 - bill));
            CHECKS.due(CollectionsEngine.PROMISED, x.stateOf(bill));
            CHECKS.due(33 - bill, x.waitsFor(bill));
            CHECKS.due(3000 + 10 * bill + CollectionsEngine.PROMISED, x.event(0));
            CHECKS.due(0, x.broken(bill));
        }
        CHECKS.due(100 + 102 + 104, x.leftIn(0, CollectionsEngine.PROMISED));
        CollectionsEngine one = new CollectionsEngine();
        one.bill(0, 2);
        CHECKS.due(1, one.promise(0, 1));
        CHECKS.due(0, one.pass(1));
        CHECKS.due(2, one.waitsFor(0));
    }

    private static void promiseBrokenInEachState() {
        CHECKS.begin("10 promise, broken");
        CollectionsEngine x = Runs.states();
        x.promise(CollectionsEngine.OPEN, 30);
        x.promise(CollectionsEngine.GRACE, 30);
        x.promise(CollectionsEngine.OVERDUE, 30);
        x.setTimes(3, 3);
        x.addHoliday(35);
        int tries = x.pass(29);
        CHECKS.due(CollectionsEngine.PROMISED, x.stateOf(CollectionsEngine.GRACE));
        CHECKS.due(CollectionsEngine.PROMISED, x.stateOf(CollectionsEngine.OVERDUE));
        CHECKS.due(CollectionsEngine.PROMISED, x.stateOf(CollectionsEngine.OPEN));
        CHECKS.due(true, tries > 0);
        x.pass(1);
        CHECKS.due(CollectionsEngine.OPEN, x.stateOf(CollectionsEngine.OPEN));
        CHECKS.due(36, x.waitsFor(CollectionsEngine.OPEN));
        CHECKS.due(CollectionsEngine.GRACE, x.stateOf(CollectionsEngine.GRACE));
        CHECKS.due(91, x.waitsFor(CollectionsEngine.GRACE));
        CHECKS.due(CollectionsEngine.OVERDUE, x.stateOf(CollectionsEngine.OVERDUE));
        CHECKS.due(123, x.waitsFor(CollectionsEngine.OVERDUE));
        CHECKS.due(1, x.broken(CollectionsEngine.OPEN));
        CHECKS.due(1, x.broken(CollectionsEngine.GRACE));
        CHECKS.due(1, x.broken(CollectionsEngine.OVERDUE));
        CHECKS.due(33033, x.event(0));
        CHECKS.due(33022, x.event(1));
        CHECKS.due(33000, x.event(2));
    }

    private static void promiseKept() {
        CHECKS.begin("10 promise, kept");
        CollectionsEngine x = new CollectionsEngine();
        x.bill(0, 9);
        x.promise(0, 5);
        x.pass(4);
        x.pay(0, 9);
        x.pass(10);
        CHECKS.due(0, x.broken(0));
        CHECKS.due(CollectionsEngine.PAID, x.stateOf(0));
        CHECKS.due(0, x.tries(0));
    }

    private static void twoPromises() {
        CHECKS.begin("10 promise, two of them");
        CollectionsEngine x = new CollectionsEngine();
        x.setWeekday(5, true);
        x.setWeekday(6, true);
        x.bill(0, 9);
        x.bill(0, 9);
        x.promise(0, 1);
        x.pass(1);
        CHECKS.due(3, x.promise(0, 2));
        x.pass(2);
        CHECKS.due(2, x.broken(0));
        CHECKS.due(CollectionsEngine.OPEN, x.stateOf(0));
        CHECKS.refused(x, Checks.NO_STATE, () -> x.promise(0, 1));
        x.pass(1);
        x.outcome(0, CollectionsEngine.BLOCKED);
        CHECKS.refused(x, Checks.NO_STATE, () -> x.promise(0, 1));
        x.pass(10);
        CHECKS.due(CollectionsEngine.OVERDUE, x.stateOf(0));
        CHECKS.refused(x, Checks.NO_STATE, () -> x.promise(0, 1));
        CHECKS.due(CollectionsEngine.GRACE, x.stateOf(1));
        CHECKS.due(17, x.promise(1, 3));
    }

    private static void promiseRefused() {
        CHECKS.begin("10 promise, refused");
        CollectionsEngine x = Runs.states();
        for (int bill : new int[] {-1, 7, 30, MIN, MAX}) {
            CHECKS.refused(x, Checks.NO_INDEX, () -> x.promise(bill, 1));
            CHECKS.refused(x, Checks.NO_INDEX, () -> x.promise(bill, 0));
        }
        for (int days : new int[] {0, -1, 31, MIN, MAX}) {
            CHECKS.refused(x, Checks.NO_ARGUMENT, () -> x.promise(CollectionsEngine.OPEN, days));
            CHECKS.refused(x, Checks.NO_ARGUMENT, () -> x.promise(CollectionsEngine.PAID, days));
        }
        int[] others = {CollectionsEngine.TRYING, CollectionsEngine.PROMISED, CollectionsEngine.WRITTEN_OFF,
            CollectionsEngine.PAID};
        for (int bill : others) {
            CHECKS.refused(x, Checks.NO_STATE, () -> x.promise(bill, 1));
        }
        x.promise(CollectionsEngine.OPEN, 1);
        x.pass(1);
        CHECKS.due(34, x.promise(CollectionsEngine.OPEN, 30));
    }

    private static void pass() {
        CHECKS.begin("11 pass");
        CollectionsEngine x = new CollectionsEngine();
        CHECKS.due(0, x.pass(60));
        CHECKS.due(60, x.today());
        CHECKS.due(0, x.pass(1));
        CHECKS.due(61, x.today());
        x.bill(4, 50);
        x.bill(4, 60);
        CHECKS.due(10, x.pass(60));
        CHECKS.due(CollectionsEngine.WRITTEN_OFF, x.stateOf(0));
        CHECKS.due(110, x.writtenOff());
        CHECKS.due(5, x.tries(1));
        CHECKS.due(CollectionsEngine.NONE, x.waitsFor(1));
        int events = x.events();
        CHECKS.due(0, x.pass(60));
        CHECKS.due(events, x.events());
        CHECKS.due(110, x.leftIn(4, CollectionsEngine.WRITTEN_OFF));
    }

    private static void passGivesErrorToTheUnanswered() {
        CHECKS.begin("11 pass, unanswered tries");
        CollectionsEngine x = Runs.tried(2);
        x.setTimes(7, 8);
        x.outcome(0, CollectionsEngine.BLOCKED);
        CHECKS.due(1, x.pass(1));
        CHECKS.due(1, x.failures(1, CollectionsEngine.ERROR));
        CHECKS.due(2011, x.event(0));
        CHECKS.due(1010, x.event(1));
        x.clearGaps(CollectionsEngine.ERROR);
        CHECKS.due(0, x.pass(1));
        CHECKS.due(2012, x.event(0));
        CHECKS.due(9, x.waitsFor(1));
        CHECKS.due(0, x.pass(5));
        CHECKS.due(8003, x.event(0));
        CHECKS.due(16, x.waitsFor(0));
        x.pass(8);
        CHECKS.due(16005, x.event(0));
        CHECKS.due(9013, x.event(1));
    }

    /** On one day the unanswered tries come first, and then each bill is looked at once. */
    private static void passInOrder() {
        CHECKS.begin("11 pass, in order");
        CollectionsEngine x = new CollectionsEngine();
        x.bill(0, 1);
        x.promise(0, 2);
        x.bill(0, 1);
        x.bill(0, 1);
        CHECKS.due(2, x.pass(1));
        x.outcome(1, CollectionsEngine.BLOCKED);
        x.bill(0, 1);
        x.promise(1, 1);
        CHECKS.due(2, x.pass(1));
        CHECKS.due(2031, x.event(0));
        CHECKS.due(2021, x.event(1));
        CHECKS.due(2012, x.event(2));
        CHECKS.due(2000, x.event(3));
        CHECKS.due(1020, x.event(4));
        CHECKS.due(1014, x.event(5));
        CHECKS.due(3, x.waitsFor(0));
        CHECKS.due(12, x.waitsFor(1));
    }

    private static void passRefused() {
        CHECKS.begin("11 pass, refused");
        CollectionsEngine x = Runs.states();
        for (int days : new int[] {0, -1, 61, MIN, MAX}) {
            CHECKS.refused(x, Checks.NO_ARGUMENT, () -> x.pass(days));
        }
    }
}
