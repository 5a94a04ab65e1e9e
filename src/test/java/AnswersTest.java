/** Promises 12 to 29: what the calls tell that only ask. */
public final class AnswersTest {
    private static final int MIN = Integer.MIN_VALUE;
    private static final int MAX = Integer.MAX_VALUE;
    private static final Checks CHECKS = new Checks();

    private interface Ask {
        Object of(CollectionsEngine engine, int bill);
    }

    public static void main(String[] args) {
        today();
        isCharging();
        bills();
        stateOf();
        left();
        tries();
        failures();
        waitsFor();
        broken();
        service();
        serviceOfEachState();
        sums();
        leftIn();
        events();
        eventRefused();
        stateAt();
        stateAtBehindTheToldEvents();
        CHECKS.end();
    }

    private static void refusesOtherBills(CollectionsEngine engine, Ask ask) {
        int bills = engine.bills();
        for (int bill : new int[] {-1, bills, 29, 30, MIN, MAX}) {
            CHECKS.refused(engine, Checks.NO_INDEX, () -> ask.of(engine, bill));
        }
        CollectionsEngine empty = new CollectionsEngine();
        CHECKS.refused(empty, Checks.NO_INDEX, () -> ask.of(empty, 0));
    }

    private static void today() {
        CHECKS.begin("12 today");
        CollectionsEngine x = new CollectionsEngine();
        CHECKS.due(0, x.today());
        x.pass(7);
        x.pass(13);
        CHECKS.due(20, x.today());
    }

    private static void isCharging() {
        CHECKS.begin("13 isCharging");
        CollectionsEngine x = new CollectionsEngine();
        x.addHoliday(7);
        x.setWeekday(6, true);
        x.setWeekday(2, false);
        boolean[] weekdays = {true, true, false, true, true, false, true};
        for (int day = 0; day < 200; day++) {
            CHECKS.due(weekdays[day % 7] && day != 7, x.isCharging(day));
        }
        for (int day = 200; day <= 1000000; day++) {
            CHECKS.due(weekdays[day % 7], x.isCharging(day));
        }
        for (int day : new int[] {-1, 1000001, -7, MIN, MAX}) {
            CHECKS.refused(x, Checks.NO_ARGUMENT, () -> x.isCharging(day));
        }
    }

    private static void bills() {
        CHECKS.begin("14 bills");
        CollectionsEngine x = new CollectionsEngine();
        for (int made = 0; made < 30; made++) {
            CHECKS.due(made, x.bills());
            x.bill(7, 1);
        }
        CHECKS.due(30, x.bills());
        x.pay(3, 1);
        CHECKS.due(30, x.bills());
    }

    private static void stateOf() {
        CHECKS.begin("15 stateOf");
        CollectionsEngine x = Runs.states();
        for (int state = CollectionsEngine.OPEN; state <= CollectionsEngine.PAID; state++) {
            CHECKS.due(state, x.stateOf(state));
        }
        refusesOtherBills(x, (engine, bill) -> engine.stateOf(bill));
    }

    private static void left() {
        CHECKS.begin("16 left");
        CollectionsEngine x = Runs.states();
        for (int bill = 0; bill < 6; bill++) {
            CHECKS.due(100 + bill, x.left(bill));
        }
        CHECKS.due(0, x.left(CollectionsEngine.PAID));
        x.pay(CollectionsEngine.PROMISED, 3);
        CHECKS.due(101, x.left(CollectionsEngine.PROMISED));
        x.outcome(CollectionsEngine.TRYING, CollectionsEngine.SUCCESS);
        CHECKS.due(0, x.left(CollectionsEngine.TRYING));
        refusesOtherBills(x, (engine, bill) -> engine.left(bill));
    }

    private static void tries() {
        CHECKS.begin("17 tries");
        CollectionsEngine x = Runs.states();
        CHECKS.due(1, x.tries(CollectionsEngine.OPEN));
        CHECKS.due(3, x.tries(CollectionsEngine.TRYING));
        CHECKS.due(1, x.tries(CollectionsEngine.WRITTEN_OFF));
        x.bill(0, 1);
        CHECKS.due(0, x.tries(7));
        x.pass(1);
        CHECKS.due(1, x.tries(7));
        x.outcome(7, CollectionsEngine.SUCCESS);
        CHECKS.due(1, x.tries(7));
        refusesOtherBills(x, (engine, bill) -> engine.tries(bill));
    }

    private static void failures() {
        CHECKS.begin("18 failures");
        CollectionsEngine x = Runs.states();
        int[][] due = {
            {0, 1, 0, 0}, {0, 0, 0, 2}, {0, 0, 1, 0}, {0, 0, 1, 0}, {1, 0, 0, 0}, {0, 0, 1, 0}, {0, 0, 0, 0},
        };
        for (int bill = 0; bill < 7; bill++) {
            for (int reason = CollectionsEngine.NO_MONEY; reason <= CollectionsEngine.ERROR; reason++) {
                CHECKS.due(due[bill][reason - 1], x.failures(bill, reason));
            }
        }
        for (int reason : new int[] {0, 5, -1, MIN, MAX}) {
            CHECKS.refused(x, Checks.NO_INDEX, () -> x.failures(0, reason));
            CHECKS.refused(x, Checks.NO_INDEX, () -> x.failures(7, reason));
        }
        refusesOtherBills(x, (engine, bill) -> engine.failures(bill, CollectionsEngine.ERROR));
    }

    private static void waitsFor() {
        CHECKS.begin("19 waitsFor");
        CollectionsEngine x = Runs.states();
        int none = CollectionsEngine.NONE;
        int[] due = {8, none, 61, 93, 31, none, none};
        for (int bill = 0; bill < 7; bill++) {
            CHECKS.due(due[bill], x.waitsFor(bill));
        }
        refusesOtherBills(x, (engine, bill) -> engine.waitsFor(bill));
    }

    private static void broken() {
        CHECKS.begin("20 broken");
        CollectionsEngine x = Runs.states();
        x.bill(0, 5);
        x.promise(7, 1);
        CHECKS.due(0, x.broken(7));
        x.pass(1);
        CHECKS.due(1, x.broken(7));
        x.promise(7, 2);
        x.pass(1);
        CHECKS.due(1, x.broken(7));
        x.pass(1);
        CHECKS.due(2, x.broken(7));
        CHECKS.due(0, x.broken(CollectionsEngine.PROMISED));
        refusesOtherBills(x, (engine, bill) -> engine.broken(bill));
    }

    private static void service() {
        CHECKS.begin("21 service");
        CollectionsEngine x = Runs.states();
        CHECKS.due(CollectionsEngine.BASIC, x.service(0));
        CHECKS.due(CollectionsEngine.CUT, x.service(1));
        CHECKS.due(CollectionsEngine.FULL, x.service(2));
        CHECKS.due(CollectionsEngine.FULL, x.service(7));
        x.promise(CollectionsEngine.OVERDUE, 5);
        CHECKS.due(CollectionsEngine.CUT, x.service(1));
        x.pay(CollectionsEngine.WRITTEN_OFF, 105);
        CHECKS.due(CollectionsEngine.BASIC, x.service(1));
        x.pass(5);
        CHECKS.due(CollectionsEngine.CUT, x.service(1));
        for (int account : new int[] {-1, 8, MIN, MAX}) {
            CHECKS.refused(x, Checks.NO_INDEX, () -> x.service(account));
        }
    }

    /** A bill alone in its account, through all that its account's service can be. */
    private static void serviceOfEachState() {
        CHECKS.begin("21 service of each state");
        CollectionsEngine x = new CollectionsEngine();
        x.bill(7, 4);
        CHECKS.due(CollectionsEngine.FULL, x.service(7));
        x.promise(0, 1);
        CHECKS.due(CollectionsEngine.FULL, x.service(7));
        x.pass(2);
        CHECKS.due(CollectionsEngine.FULL, x.service(7));
        x.outcome(0, CollectionsEngine.BLOCKED);
        CHECKS.due(CollectionsEngine.BASIC, x.service(7));
        x.promise(0, 1);
        CHECKS.due(CollectionsEngine.BASIC, x.service(7));
        x.pass(1);
        CHECKS.due(CollectionsEngine.BASIC, x.service(7));
        x.pass(10);
        CHECKS.due(CollectionsEngine.CUT, x.service(7));
        x.pass(30);
        CHECKS.due(CollectionsEngine.WRITTEN_OFF, x.stateOf(0));
        CHECKS.due(CollectionsEngine.CUT, x.service(7));
        x.pay(0, 4);
        CHECKS.due(CollectionsEngine.FULL, x.service(7));
    }

    private static void sums() {
        CHECKS.begin("22 to 25 billed, paid, writtenOff, broughtBack");
        CollectionsEngine x = Runs.states();
        CHECKS.due(721, x.billed());
        CHECKS.due(106, x.paid());
        CHECKS.due(105, x.writtenOff());
        CHECKS.due(0, x.broughtBack());
        x.pay(CollectionsEngine.GRACE, 10);
        x.pay(CollectionsEngine.OVERDUE, 20);
        CHECKS.due(0, x.broughtBack());
        x.pay(CollectionsEngine.WRITTEN_OFF, 30);
        CHECKS.due(721, x.billed());
        CHECKS.due(166, x.paid());
        CHECKS.due(105, x.writtenOff());
        CHECKS.due(30, x.broughtBack());
        x.outcome(CollectionsEngine.TRYING, CollectionsEngine.SUCCESS);
        CHECKS.due(267, x.paid());
        x.bill(5, 1000);
        CHECKS.due(1721, x.billed());
        x.setTimes(1, 1);
        x.pass(60);
        x.pass(30);
        CHECKS.due(CollectionsEngine.WRITTEN_OFF, x.stateOf(CollectionsEngine.OVERDUE));
        CHECKS.due(105 + 83 + 100 + 104 + 92 + 1000, x.writtenOff());
        CHECKS.due(267, x.paid());
        CHECKS.due(30, x.broughtBack());
        CHECKS.due(1721, x.billed());
    }

    private static void leftIn() {
        CHECKS.begin("26 leftIn");
        CollectionsEngine x = Runs.states();
        for (int state = CollectionsEngine.OPEN; state < CollectionsEngine.PAID; state++) {
            CHECKS.due(state % 2 == 0 ? 100 + state : 0, x.leftIn(0, state));
            CHECKS.due(state % 2 == 1 ? 100 + state : 0, x.leftIn(1, state));
            CHECKS.due(0, x.leftIn(7, state));
        }
        CHECKS.due(0, x.leftIn(0, CollectionsEngine.PAID));
        x.bill(0, 1000);
        CHECKS.due(1100, x.leftIn(0, CollectionsEngine.OPEN));
        x.pay(7, 1);
        CHECKS.due(1099, x.leftIn(0, CollectionsEngine.OPEN));
        for (int account : new int[] {-1, 8, MIN, MAX}) {
            CHECKS.refused(x, Checks.NO_INDEX, () -> x.leftIn(account, 0));
            CHECKS.refused(x, Checks.NO_INDEX, () -> x.leftIn(account, 7));
        }
        for (int state : new int[] {-1, 7, MIN, MAX}) {
            CHECKS.refused(x, Checks.NO_ARGUMENT, () -> x.leftIn(0, state));
        }
    }

    private static void events() {
        CHECKS.begin("27 events, 28 event");
        CollectionsEngine x = Runs.states();
        int[] due = {3055, 3033, 3011, 2010, 2053, 2011, 1010, 1000, 1044, 1040, 1066, 1022, 1032, 1052};
        for (int back = 0; back < due.length; back++) {
            CHECKS.due(due[back], x.event(back));
        }
        CHECKS.due(due.length + 14, x.events());
        CHECKS.due(1061, x.event(due.length));
        CHECKS.due(0, x.event(due.length + 13));
        x.pay(0, 1);
        CHECKS.due(due.length + 14, x.events());
    }

    private static void eventRefused() {
        CHECKS.begin("28 event, refused");
        CollectionsEngine x = new CollectionsEngine();
        CHECKS.refused(x, Checks.NO_INDEX, () -> x.event(0));
        x.bill(0, 1);
        x.bill(0, 1);
        for (int back : new int[] {-1, 2, 399, 400, MIN, MAX}) {
            CHECKS.refused(x, Checks.NO_INDEX, () -> x.event(back));
        }
        CHECKS.due(0, x.event(1));
        CollectionsEngine full = fourHundredEvents();
        CHECKS.due(400, full.events());
        CHECKS.due(0, full.event(399));
        CHECKS.refused(full, Checks.NO_INDEX, () -> full.event(400));
        full.pay(29, 1);
        CHECKS.due(401, full.events());
        CHECKS.due(60296, full.event(0));
        CHECKS.due(10, full.event(399));
        for (int back : new int[] {-1, 400, 401, MIN, MAX}) {
            CHECKS.refused(full, Checks.NO_INDEX, () -> full.event(back));
        }
    }

    /** Thirty bills of 1, with 13 events each up to the write-off, and two more for each of five promises. */
    private static CollectionsEngine fourHundredEvents() {
        CollectionsEngine engine = new CollectionsEngine();
        for (int bill = 0; bill < 30; bill++) {
            engine.bill(bill % 8, 1);
        }
        for (int bill = 0; bill < 5; bill++) {
            engine.promise(bill, 1);
        }
        engine.pass(60);
        return engine;
    }

    private static void stateAt() {
        CHECKS.begin("29 stateAt");
        CollectionsEngine x = Runs.states();
        int[] written = {CollectionsEngine.OPEN, CollectionsEngine.GRACE, CollectionsEngine.OVERDUE,
            CollectionsEngine.WRITTEN_OFF};
        for (int day = 0; day <= 3; day++) {
            CHECKS.due(written[day], x.stateAt(CollectionsEngine.WRITTEN_OFF, day));
        }
        x.bill(0, 1);
        CHECKS.due(CollectionsEngine.NONE, x.stateAt(7, 2));
        CHECKS.due(CollectionsEngine.OPEN, x.stateAt(7, 3));
        x.pass(10);
        CHECKS.due(CollectionsEngine.WRITTEN_OFF, x.stateAt(CollectionsEngine.WRITTEN_OFF, 13));
        CHECKS.due(CollectionsEngine.PROMISED, x.stateAt(CollectionsEngine.PROMISED, 9));
        for (int day : new int[] {-1, 14, MIN, MAX}) {
            CHECKS.refused(x, Checks.NO_ARGUMENT, () -> x.stateAt(0, day));
            CHECKS.refused(x, Checks.NO_INDEX, () -> x.stateAt(8, day));
        }
        refusesOtherBills(x, (engine, bill) -> engine.stateAt(bill, 0));
    }

    private static void stateAtBehindTheToldEvents() {
        CHECKS.begin("29 stateAt, behind the told events");
        CollectionsEngine x = fourHundredEvents();
        CHECKS.due(CollectionsEngine.PROMISED, x.stateAt(0, 0));
        CHECKS.due(CollectionsEngine.OPEN, x.stateAt(29, 0));
        for (int bill = 0; bill < 30; bill++) {
            x.pay(bill, 1);
        }
        CHECKS.due(430, x.events());
        CHECKS.due(CollectionsEngine.NONE, x.stateAt(29, 0));
        CHECKS.due(CollectionsEngine.OPEN, x.stateAt(29, 1));
        CHECKS.due(CollectionsEngine.PROMISED, x.stateAt(0, 0));
        CHECKS.due(CollectionsEngine.WRITTEN_OFF, x.stateAt(29, 59));
        CHECKS.due(CollectionsEngine.PAID, x.stateAt(29, 60));
        paidAtOnce();
    }

    /** A bill with none of its events among the told ones, though it is as it was. */
    private static void paidAtOnce() {
        CollectionsEngine x = new CollectionsEngine();
        for (int bill = 0; bill < 30; bill++) {
            x.bill(7, 1);
        }
        x.pay(0, 1);
        for (int bill = 1; bill < 30; bill++) {
            x.promise(bill, 1);
        }
        x.pass(60);
        CHECKS.due(2 + 29 * 15, x.events());
        CHECKS.due(CollectionsEngine.PAID, x.stateOf(0));
        CHECKS.due(CollectionsEngine.NONE, x.stateAt(0, 60));
        CHECKS.due(CollectionsEngine.NONE, x.stateAt(6, 0));
        CHECKS.due(CollectionsEngine.OPEN, x.stateAt(6, 1));
        CHECKS.due(CollectionsEngine.PROMISED, x.stateAt(7, 0));
    }
}
