/** Promises 1 to 6: a new object, and the rules that can be set. */
public final class RulesTest {
    private static final int MIN = Integer.MIN_VALUE;
    private static final int MAX = Integer.MAX_VALUE;
    private static final Checks CHECKS = new Checks();

    public static void main(String[] args) {
        newObject();
        setWeekday();
        setWeekdayCountsForLaterSearchesAlone();
        addHoliday();
        manyHolidays();
        addGap();
        addedGapsCountFromNowOn();
        sixGaps();
        clearGaps();
        clearedGapsCountFromNowOn();
        setTimes();
        firstTimes();
        timesCountFromNowOn();
        CHECKS.end();
    }

    private static void newObject() {
        CHECKS.begin("1 a new object");
        CollectionsEngine x = new CollectionsEngine();
        CHECKS.due(0, x.today());
        CHECKS.due(0, x.bills());
        CHECKS.due(0, x.events());
        CHECKS.due(0, x.billed() + x.paid() + x.writtenOff() + x.broughtBack());
        for (int day = 0; day < 30; day++) {
            CHECKS.due(day % 7 < 5, x.isCharging(day));
        }
        for (int account = 0; account < 8; account++) {
            CHECKS.due(CollectionsEngine.FULL, x.service(account));
        }
        CollectionsEngine other = new CollectionsEngine();
        x.bill(0, 5);
        x.setWeekday(0, false);
        x.pass(3);
        CHECKS.due(Snapshot.of(new CollectionsEngine()), Snapshot.of(other));
    }

    private static void setWeekday() {
        CHECKS.begin("2 setWeekday");
        CollectionsEngine x = new CollectionsEngine();
        CHECKS.due(5, x.setWeekday(0, true));
        CHECKS.due(5, x.setWeekday(6, false));
        CHECKS.due(6, x.setWeekday(6, true));
        CHECKS.due(7, x.setWeekday(5, true));
        CHECKS.due(true, x.isCharging(5) && x.isCharging(6) && x.isCharging(13));
        for (int weekday = 0; weekday < 6; weekday++) {
            CHECKS.due(6 - weekday, x.setWeekday(weekday, false));
            CHECKS.due(false, x.isCharging(weekday) || x.isCharging(weekday + 700));
        }
        CHECKS.refused(x, Checks.NO_STATE, () -> x.setWeekday(6, false));
        CHECKS.due(true, x.isCharging(6));
        CHECKS.due(1, x.setWeekday(5, false));
        CHECKS.due(2, x.setWeekday(0, true));
        for (int weekday : new int[] {-1, 7, 32, -32, MIN, MAX}) {
            CHECKS.refused(x, Checks.NO_INDEX, () -> x.setWeekday(weekday, false));
            CHECKS.refused(x, Checks.NO_INDEX, () -> x.setWeekday(weekday, true));
        }
    }

    private static void setWeekdayCountsForLaterSearchesAlone() {
        CHECKS.begin("2 setWeekday and the next try");
        CollectionsEngine x = new CollectionsEngine();
        x.bill(0, 5);
        x.setWeekday(1, false);
        CHECKS.due(1, x.waitsFor(0));
        x.bill(0, 5);
        CHECKS.due(2, x.waitsFor(1));
        CHECKS.due(0, x.pass(1));
        CHECKS.due(CollectionsEngine.OPEN, x.stateOf(0));
        CHECKS.due(2, x.waitsFor(0));
        CHECKS.due(0, x.tries(0));
        CHECKS.due(2, x.events());
        CHECKS.due(2, x.pass(1));
        x.setWeekday(2, false);
        CHECKS.due(CollectionsEngine.TRYING, x.stateOf(0));
    }

    private static void addHoliday() {
        CHECKS.begin("3 addHoliday");
        CollectionsEngine x = new CollectionsEngine();
        CHECKS.due(true, x.addHoliday(1));
        CHECKS.due(false, x.addHoliday(1));
        CHECKS.due(true, x.addHoliday(60));
        CHECKS.due(true, x.addHoliday(6));
        CHECKS.due(false, x.addHoliday(6));
        CHECKS.due(false, x.isCharging(1) || x.isCharging(60) || x.isCharging(6));
        CHECKS.due(true, x.isCharging(0) && x.isCharging(2) && x.isCharging(8) && x.isCharging(59));
        CHECKS.due(true, x.isCharging(65) && x.isCharging(129) && x.isCharging(1 + 14 * 64));
        for (int day : new int[] {0, -1, 61, MIN, MAX}) {
            CHECKS.refused(x, Checks.NO_ARGUMENT, () -> x.addHoliday(day));
        }
        x.setWeekday(6, true);
        CHECKS.due(false, x.isCharging(6));
        x.pass(10);
        CHECKS.due(false, x.isCharging(1));
        CHECKS.due(false, x.addHoliday(60));
        CHECKS.due(true, x.addHoliday(70));
        CHECKS.due(true, x.addHoliday(11));
        for (int day : new int[] {1, 9, 10, 71}) {
            CHECKS.refused(x, Checks.NO_ARGUMENT, () -> x.addHoliday(day));
        }
    }

    private static void manyHolidays() {
        CHECKS.begin("3 addHoliday, many of them");
        CollectionsEngine x = new CollectionsEngine();
        for (int day = 1; day <= 60; day++) {
            CHECKS.due(true, x.addHoliday(day));
        }
        x.bill(2, 9);
        CHECKS.due(63, x.waitsFor(0));
        CHECKS.due(0, x.pass(60));
        for (int day = 61; day <= 120; day++) {
            CHECKS.due(true, x.addHoliday(day));
        }
        CHECKS.due(0, x.pass(3));
        CHECKS.due(121, x.waitsFor(0));
        CollectionsEngine late = new CollectionsEngine();
        for (int i = 0; i < 505; i++) {
            late.pass(60);
        }
        CHECKS.due(true, late.isCharging(30339));
        CHECKS.due(true, late.addHoliday(30339));
        CHECKS.due(false, late.isCharging(30339));
        CHECKS.due(false, late.addHoliday(30339));
        CHECKS.due(true, late.isCharging(30339 - 14));
    }

    private static void addGap() {
        CHECKS.begin("4 addGap");
        CollectionsEngine x = new CollectionsEngine();
        CHECKS.due(4, x.addGap(CollectionsEngine.NO_MONEY, 1));
        CHECKS.due(3, x.addGap(CollectionsEngine.EXPIRED, 30));
        CHECKS.due(1, x.addGap(CollectionsEngine.BLOCKED, 2));
        CHECKS.due(5, x.addGap(CollectionsEngine.ERROR, 2));
        CHECKS.due(6, x.addGap(CollectionsEngine.ERROR, 3));
        CHECKS.refused(x, Checks.NO_STATE, () -> x.addGap(CollectionsEngine.ERROR, 1));
        CHECKS.refused(x, Checks.NO_STATE, () -> x.addGap(CollectionsEngine.ERROR, 30));
        for (int reason : new int[] {0, 5, -1, MIN, MAX}) {
            CHECKS.refused(x, Checks.NO_INDEX, () -> x.addGap(reason, 3));
            CHECKS.refused(x, Checks.NO_INDEX, () -> x.addGap(reason, 0));
        }
        for (int days : new int[] {0, 31, -1, MIN, MAX}) {
            CHECKS.refused(x, Checks.NO_ARGUMENT, () -> x.addGap(CollectionsEngine.BLOCKED, days));
            CHECKS.refused(x, Checks.NO_ARGUMENT, () -> x.addGap(CollectionsEngine.ERROR, days));
        }
        CHECKS.due(2, x.addGap(CollectionsEngine.BLOCKED, 4));
        CHECKS.due(6, x.clearGaps(CollectionsEngine.ERROR));
    }

    private static void addedGapsCountFromNowOn() {
        CHECKS.begin("4 addGap and failures");
        CollectionsEngine x = Runs.tried(1);
        x.addGap(CollectionsEngine.BLOCKED, 2);
        CHECKS.due(CollectionsEngine.OPEN, x.outcome(0, CollectionsEngine.BLOCKED));
        CHECKS.due(3, x.waitsFor(0));
        x.addGap(CollectionsEngine.BLOCKED, 30);
        x.pass(2);
        CHECKS.due(CollectionsEngine.OPEN, x.outcome(0, CollectionsEngine.BLOCKED));
        CHECKS.due(35, x.waitsFor(0));
        x.pass(32);
        CHECKS.due(CollectionsEngine.GRACE, x.outcome(0, CollectionsEngine.BLOCKED));
        CHECKS.due(45, x.waitsFor(0));
        x.addGap(CollectionsEngine.BLOCKED, 1);
        CHECKS.due(CollectionsEngine.GRACE, x.stateOf(0));
    }

    private static void sixGaps() {
        CHECKS.begin("4 addGap, six of them");
        CollectionsEngine x = new CollectionsEngine();
        x.setWeekday(5, true);
        x.setWeekday(6, true);
        for (int days : new int[] {30, 1, 2, 4, 3, 29}) {
            x.addGap(CollectionsEngine.BLOCKED, days);
        }
        x.bill(0, 5);
        x.pass(1);
        for (int next : new int[] {31, 32, 34, 38, 41, 70}) {
            CHECKS.due(CollectionsEngine.OPEN, x.outcome(0, CollectionsEngine.BLOCKED));
            CHECKS.due(next, x.waitsFor(0));
            x.pass(next - x.today());
        }
        CHECKS.due(CollectionsEngine.GRACE, x.outcome(0, CollectionsEngine.BLOCKED));
    }

    private static void clearGaps() {
        CHECKS.begin("5 clearGaps");
        CollectionsEngine x = new CollectionsEngine();
        CHECKS.due(3, x.clearGaps(CollectionsEngine.NO_MONEY));
        CHECKS.due(2, x.clearGaps(CollectionsEngine.EXPIRED));
        CHECKS.due(0, x.clearGaps(CollectionsEngine.BLOCKED));
        CHECKS.due(4, x.clearGaps(CollectionsEngine.ERROR));
        CHECKS.due(0, x.clearGaps(CollectionsEngine.ERROR));
        CHECKS.due(1, x.addGap(CollectionsEngine.ERROR, 9));
        CHECKS.due(1, x.clearGaps(CollectionsEngine.ERROR));
        for (int reason : new int[] {0, 5, -1, MIN, MAX}) {
            CHECKS.refused(x, Checks.NO_INDEX, () -> x.clearGaps(reason));
        }
    }

    private static void clearedGapsCountFromNowOn() {
        CHECKS.begin("5 clearGaps and failures");
        CollectionsEngine x = Runs.tried(2);
        CHECKS.due(CollectionsEngine.OPEN, x.outcome(0, CollectionsEngine.NO_MONEY));
        x.clearGaps(CollectionsEngine.NO_MONEY);
        CHECKS.due(CollectionsEngine.OPEN, x.stateOf(0));
        CHECKS.due(CollectionsEngine.GRACE, x.outcome(1, CollectionsEngine.NO_MONEY));
        x.addGap(CollectionsEngine.NO_MONEY, 1);
        x.pass(3);
        CHECKS.due(CollectionsEngine.TRYING, x.stateOf(0));
        CHECKS.due(CollectionsEngine.GRACE, x.outcome(0, CollectionsEngine.NO_MONEY));
        CHECKS.due(2, x.failures(0, CollectionsEngine.NO_MONEY));
        x.bill(0, 1);
        x.pass(3);
        CHECKS.due(CollectionsEngine.TRYING, x.stateOf(2));
        x.clearGaps(CollectionsEngine.ERROR);
        x.pass(1);
        CHECKS.due(CollectionsEngine.GRACE, x.stateOf(2));
        CHECKS.due(17, x.waitsFor(2));
    }

    private static void setTimes() {
        CHECKS.begin("6 setTimes");
        CollectionsEngine x = new CollectionsEngine();
        CHECKS.due(10, x.setTimes(1, 90));
        CHECKS.due(1, x.setTimes(60, 1));
        for (int grace : new int[] {0, 61, -1, MIN, MAX}) {
            CHECKS.refused(x, Checks.NO_ARGUMENT, () -> x.setTimes(grace, 5));
        }
        for (int overdue : new int[] {0, 91, -1, MIN, MAX}) {
            CHECKS.refused(x, Checks.NO_ARGUMENT, () -> x.setTimes(5, overdue));
        }
        x.bill(0, 7);
        x.pass(1);
        x.outcome(0, CollectionsEngine.BLOCKED);
        CHECKS.due(61, x.waitsFor(0));
        x.pass(60);
        CHECKS.due(62, x.waitsFor(0));
        CHECKS.due(60, x.setTimes(60, 90));
    }

    private static void firstTimes() {
        CHECKS.begin("6 times at first");
        CollectionsEngine x = Runs.tried(1);
        x.outcome(0, CollectionsEngine.BLOCKED);
        CHECKS.due(11, x.waitsFor(0));
        x.pass(10);
        CHECKS.due(CollectionsEngine.OVERDUE, x.stateOf(0));
        CHECKS.due(41, x.waitsFor(0));
        x.pass(29);
        CHECKS.due(CollectionsEngine.OVERDUE, x.stateOf(0));
        x.pass(1);
        CHECKS.due(CollectionsEngine.WRITTEN_OFF, x.stateOf(0));
        CHECKS.due(41005, x.event(0));
    }

    private static void timesCountFromNowOn() {
        CHECKS.begin("6 setTimes, from now on");
        CollectionsEngine x = Runs.tried(2);
        x.outcome(0, CollectionsEngine.BLOCKED);
        x.setTimes(2, 90);
        x.outcome(1, CollectionsEngine.BLOCKED);
        CHECKS.due(11, x.waitsFor(0));
        CHECKS.due(3, x.waitsFor(1));
        x.pass(2);
        CHECKS.due(93, x.waitsFor(1));
        x.setTimes(2, 4);
        CHECKS.due(93, x.waitsFor(1));
        x.pass(8);
        CHECKS.due(15, x.waitsFor(0));
        x.pass(4);
        CHECKS.due(CollectionsEngine.WRITTEN_OFF, x.stateOf(0));
        CHECKS.due(CollectionsEngine.OVERDUE, x.stateOf(1));
    }
}
