/** Promises 1 to 6: a new object, and the rules that can be set. */
public final class RulesTest implements Names {
    private static final Checks CHECKS = new Checks();

    public static void main(String[] args) {
        CHECKS.run(RulesTest.class);
    }

    @Sentence(of = "Promise 1", says = "Day 0, without bills.")
    static void newObject() {
        CollectionsEngine x = new CollectionsEngine();
        CHECKS.due(0, x.today());
        CHECKS.due(0, x.bills());
        CHECKS.due(0, x.events());
        CHECKS.due(0, x.billed());
        CHECKS.due(0, x.paid());
        CHECKS.due(0, x.writtenOff());
        CHECKS.due(0, x.broughtBack());
        for (int account : Checks.range(0, 7)) {
            CHECKS.due(FULL, x.service(account));
            for (int state : Checks.range(OPEN, PAID)) {
                CHECKS.due(0, x.leftIn(account, state));
            }
        }
        CHECKS.refused(CollectionsEngine::new, Checks.NO_INDEX, each -> each.stateOf(0));
        CHECKS.refused(CollectionsEngine::new, Checks.NO_INDEX, each -> each.event(0));
        CHECKS.answers(0, CollectionsEngine::new, each -> each.pass(60));
    }

    @Sentence(of = "Promise 1", says = "Day 0, without bills.")
    static void newObjectsShareNothing() {
        String before = Snapshot.of(CollectionsEngine::new);
        CollectionsEngine x = new CollectionsEngine();
        x.bill(0, 5);
        x.setWeekday(0, false);
        x.addHoliday(1);
        x.addGap(BLOCKED, 3);
        x.clearGaps(NO_MONEY);
        x.setTimes(3, 4);
        x.pass(3);
        CHECKS.due(before, Snapshot.of(CollectionsEngine::new));
    }

    // ---- promise 2, setWeekday

    @Sentence(of = "Promise 2", says = {"`weekday`: 0 to 6",
        "Throws `IndexOutOfBoundsException` if there is no such weekday"})
    static void weekdaysThatThereAre() {
        for (int weekday : Checks.range(0, 6)) {
            CHECKS.answers(weekday < 5 ? 5 : 6, CollectionsEngine::new, x -> x.setWeekday(weekday, true));
            CHECKS.answers(weekday < 5 ? 4 : 5, CollectionsEngine::new, x -> x.setWeekday(weekday, false));
        }
        for (int weekday : new int[] {-1, 7, 8, 32, -32, MIN, MAX}) {
            CHECKS.refused(CollectionsEngine::new, Checks.NO_INDEX, x -> x.setWeekday(weekday, true));
            CHECKS.refused(CollectionsEngine::new, Checks.NO_INDEX, x -> x.setWeekday(weekday, false));
            CHECKS.refused(() -> Runs.oneWeekday(0), Checks.NO_INDEX, x -> x.setWeekday(weekday, false));
        }
    }

    @Sentence(of = "Promise 2", says = {"Says whether a weekday is one for charging.", "`isCharging`: whether it is"})
    static void weekdayIsOneOrNot() {
        for (int weekday : Checks.range(0, 6)) {
            CollectionsEngine x = new CollectionsEngine();
            for (boolean isCharging : new boolean[] {false, false, true, true, false}) {
                x.setWeekday(weekday, isCharging);
                for (int day : Checks.range(0, 20)) {
                    boolean isSet = day % 7 == weekday;
                    CHECKS.due(isSet ? isCharging : day % 7 < 5, x.isCharging(day));
                }
            }
        }
    }

    @Sentence(of = "Promise 2", says = "Returns how many weekdays are then.")
    static void countOfWeekdays() {
        CollectionsEngine x = new CollectionsEngine();
        CHECKS.due(5, x.setWeekday(0, true));
        CHECKS.due(5, x.setWeekday(6, false));
        CHECKS.due(6, x.setWeekday(6, true));
        CHECKS.due(7, x.setWeekday(5, true));
        CHECKS.due(7, x.setWeekday(5, true));
        for (int weekday : Checks.range(0, 5)) {
            CHECKS.due(6 - weekday, x.setWeekday(weekday, false));
        }
        CHECKS.due(1, x.setWeekday(5, false));
        CHECKS.due(1, x.setWeekday(6, true));
        CHECKS.due(2, x.setWeekday(0, true));
    }

    @Sentence(of = "Promise 2", says = "Throws `IllegalStateException` if none would be")
    static void lastWeekdayStays() {
        for (int kept : Checks.range(0, 6)) {
            CHECKS.refused(() -> Runs.oneWeekday(kept), Checks.NO_STATE, x -> x.setWeekday(kept, false));
            CHECKS.answers(1, () -> Runs.oneWeekday(kept), x -> x.setWeekday(kept, true));
            int other = (kept + 1) % 7;
            CHECKS.answers(1, () -> Runs.oneWeekday(kept), x -> x.setWeekday(other, false));
            CollectionsEngine two = Runs.oneWeekday(kept);
            CHECKS.due(2, two.setWeekday(other, true));
            CHECKS.due(1, two.setWeekday(kept, false));
        }
    }

    // ---- promise 3, addHoliday

    @Sentence(of = "Promise 3", says = "Adds a holiday.")
    static void holidayIsNoChargingDay() {
        for (int holiday : new int[] {1, 7, 31, 32, 57, 60}) {
            CollectionsEngine x = Runs.everyDay();
            x.addHoliday(holiday);
            for (int day : Checks.range(0, 200)) {
                CHECKS.due(day != holiday, x.isCharging(day));
            }
            CHECKS.due(true, x.isCharging(holiday + 14 * 64));
        }
    }

    @Sentence(of = "Promise 3", says = {"`day`: later than today, up to 60 days later",
        "Throws `IllegalArgumentException` if day is out of range"})
    static void daysForHolidays() {
        for (int today : new int[] {0, 1, 10, 64}) {
            Checks.Maker maker = () -> Runs.upTo(new CollectionsEngine(), today);
            for (int day : new int[] {today + 1, today + 2, today + 59, today + 60}) {
                CHECKS.answers(true, maker, x -> x.addHoliday(day));
            }
            for (int day : new int[] {today, today + 61, today - 1, -1, -today, MIN, MAX}) {
                CHECKS.refused(maker, Checks.NO_ARGUMENT, x -> x.addHoliday(day));
            }
        }
    }

    @Sentence(of = "Promise 3", says = "Returns whether it was none yet.")
    static void holidayOnce() {
        CollectionsEngine x = new CollectionsEngine();
        for (int day : Checks.range(1, 60)) {
            CHECKS.due(true, x.addHoliday(day));
        }
        for (int day : Checks.range(1, 60)) {
            CHECKS.due(false, x.addHoliday(day));
        }
        x.pass(59);
        CHECKS.due(false, x.addHoliday(60));
        for (int day : Checks.range(61, 119)) {
            CHECKS.due(true, x.addHoliday(day));
        }
    }

    // ---- promise 4, addGap

    @Sentence(of = "Promise 4", says = "Adds a gap at the end of the row of a reason;")
    static void gapAtTheEnd() {
        int[][] firstRows = {{3, 5, 7}, {7, 7}, {}, {1, 1, 1, 1}};
        for (int reason : Checks.range(NO_MONEY, ERROR)) {
            CollectionsEngine x = Runs.everyDay();
            x.addGap(reason, 11);
            x.addGap(reason, 2);
            x.bill(0, 100);
            x.pass(1);
            for (int gap : firstRows[reason - 1]) {
                failWithGap(x, reason, gap);
            }
            failWithGap(x, reason, 11);
            failWithGap(x, reason, 2);
            CHECKS.due(GRACE, x.outcome(0, reason));
        }
    }

    private static void failWithGap(CollectionsEngine x, int reason, int gap) {
        CHECKS.due(OPEN, x.outcome(0, reason));
        CHECKS.due(x.today() + gap, x.waitsFor(0));
        CHECKS.due(1, x.pass(gap));
    }

    @Sentence(of = "Promise 4", says = "it counts for failures from now on.")
    static void gapForLaterFailures() {
        CollectionsEngine x = Runs.tried(3);
        CHECKS.due(GRACE, x.outcome(0, BLOCKED));
        CHECKS.due(OPEN, x.outcome(2, EXPIRED));
        x.addGap(BLOCKED, 2);
        x.addGap(EXPIRED, 30);
        CHECKS.due(GRACE, x.stateOf(0));
        CHECKS.due(11, x.waitsFor(0));
        CHECKS.due(8, x.waitsFor(2));
        CHECKS.due(OPEN, x.outcome(1, BLOCKED));
        CHECKS.due(3, x.waitsFor(1));
        x.pass(2);
        CHECKS.due(GRACE, x.outcome(1, BLOCKED));
    }

    @Sentence(of = "Promise 4", says = {"`reason`: NO_MONEY, EXPIRED, BLOCKED or ERROR",
        "Throws `IndexOutOfBoundsException` if there is no such reason"})
    static void reasonsForGaps() {
        int[] due = {4, 3, 1, 5};
        for (int reason : Checks.range(NO_MONEY, ERROR)) {
            CHECKS.answers(due[reason - 1], CollectionsEngine::new, x -> x.addGap(reason, 9));
        }
        for (int reason : new int[] {SUCCESS, ERROR + 1, -1, MIN, MAX}) {
            CHECKS.refused(CollectionsEngine::new, Checks.NO_INDEX, x -> x.addGap(reason, 9));
        }
    }

    @Sentence(of = "Promise 4", says = {"`days`: 1 to 30", "Throws `IllegalArgumentException` if days is out of range"})
    static void daysOfGaps() {
        for (int days : new int[] {1, 2, 29, 30}) {
            CollectionsEngine x = Runs.everyDay();
            CHECKS.due(1, x.addGap(BLOCKED, days));
            x.bill(0, 1);
            x.pass(1);
            failWithGap(x, BLOCKED, days);
        }
        for (int days : new int[] {0, 31, -1, MIN, MAX}) {
            CHECKS.refused(CollectionsEngine::new, Checks.NO_ARGUMENT, x -> x.addGap(BLOCKED, days));
            CHECKS.refused(CollectionsEngine::new, Checks.NO_ARGUMENT, x -> x.addGap(NO_MONEY, days));
        }
    }

    private static CollectionsEngine fullRow(int reason) {
        CollectionsEngine x = Runs.everyDay();
        x.clearGaps(reason);
        for (int gap : Checks.range(1, 6)) {
            x.addGap(reason, gap);
        }
        return x;
    }

    @Sentence(of = "Promise 4", says = {"Returns how many gaps the row has then.",
        "Throws `IllegalStateException` if the row has 6"})
    static void sixGaps() {
        int[] firstCounts = {3, 2, 0, 4};
        for (int reason : Checks.range(NO_MONEY, ERROR)) {
            CollectionsEngine x = new CollectionsEngine();
            for (int count : Checks.range(firstCounts[reason - 1] + 1, 6)) {
                CHECKS.due(count, x.addGap(reason, 5));
            }
            CHECKS.refused(() -> fullRow(reason), Checks.NO_STATE, each -> each.addGap(reason, 1));
            CHECKS.refused(() -> fullRow(reason), Checks.NO_STATE, each -> each.addGap(reason, 30));
            int other = reason == ERROR ? NO_MONEY : reason + 1;
            CHECKS.answers(firstCounts[other - 1] + 1, () -> fullRow(reason), each -> each.addGap(other, 1));
            CollectionsEngine emptied = fullRow(reason);
            CHECKS.due(6, emptied.clearGaps(reason));
            CHECKS.due(1, emptied.addGap(reason, 1));
        }
    }

    @Sentence(of = "Promise 4", says = "Throws `IllegalStateException` if the row has 6")
    static void eachOfSixGapsCounts() {
        for (int reason : Checks.range(NO_MONEY, ERROR)) {
            CollectionsEngine x = fullRow(reason);
            x.bill(0, 1);
            x.pass(1);
            for (int gap : Checks.range(1, 6)) {
                failWithGap(x, reason, gap);
            }
            CHECKS.due(GRACE, x.outcome(0, reason));
        }
    }

    // ---- promise 5, clearGaps

    @Sentence(of = "Promise 5", says = "Takes all gaps out of the row of a reason.")
    static void clearedRow() {
        for (int reason : Checks.range(NO_MONEY, ERROR)) {
            CollectionsEngine x = new CollectionsEngine();
            x.addGap(BLOCKED, 4);
            x.clearGaps(reason);
            for (int bill : Checks.range(0, 3)) {
                x.bill(0, 1);
            }
            x.pass(1);
            for (int other : Checks.range(NO_MONEY, ERROR)) {
                CHECKS.due(other == reason ? GRACE : OPEN, x.outcome(other - 1, other));
            }
        }
    }

    @Sentence(of = "Promise 5", says = "Takes all gaps out of the row of a reason.")
    static void clearedRowLeavesFailuresAndNextTries() {
        CollectionsEngine x = Runs.tried(1);
        CHECKS.due(OPEN, x.outcome(0, NO_MONEY));
        x.clearGaps(NO_MONEY);
        CHECKS.due(OPEN, x.stateOf(0));
        CHECKS.due(4, x.waitsFor(0));
        CHECKS.due(1, x.failures(0, NO_MONEY));
        x.addGap(NO_MONEY, 20);
        x.pass(3);
        CHECKS.due(GRACE, x.outcome(0, NO_MONEY));
        CHECKS.due(2, x.failures(0, NO_MONEY));
    }

    @Sentence(of = "Promise 5", says = {"`reason`: NO_MONEY, EXPIRED, BLOCKED or ERROR",
        "Throws `IndexOutOfBoundsException` if there is no such reason"})
    static void reasonsForClearing() {
        int[] due = {3, 2, 0, 4};
        for (int reason : Checks.range(NO_MONEY, ERROR)) {
            CHECKS.answers(due[reason - 1], CollectionsEngine::new, x -> x.clearGaps(reason));
        }
        for (int reason : new int[] {SUCCESS, ERROR + 1, -1, MIN, MAX}) {
            CHECKS.refused(CollectionsEngine::new, Checks.NO_INDEX, x -> x.clearGaps(reason));
        }
    }

    @Sentence(of = "Promise 5", says = "Returns how many there were.")
    static void countOfClearedGaps() {
        for (int reason : Checks.range(NO_MONEY, ERROR)) {
            CollectionsEngine x = fullRow(reason);
            CHECKS.due(6, x.clearGaps(reason));
            CHECKS.due(0, x.clearGaps(reason));
            x.addGap(reason, 30);
            CHECKS.due(1, x.clearGaps(reason));
            CHECKS.due(0, x.clearGaps(reason));
        }
    }

    // ---- promise 6, setTimes

    @Sentence(of = "Promise 6", says =
        "Sets the grace time and the overdue time, for bills that come into these states from now on.")
    static void timesFromNowOn() {
        CollectionsEngine x = Runs.tried(2);
        x.outcome(0, BLOCKED);
        x.setTimes(2, 90);
        x.outcome(1, BLOCKED);
        CHECKS.due(11, x.waitsFor(0));
        CHECKS.due(3, x.waitsFor(1));
        x.pass(2);
        CHECKS.due(93, x.waitsFor(1));
        x.setTimes(60, 4);
        CHECKS.due(11, x.waitsFor(0));
        CHECKS.due(93, x.waitsFor(1));
        x.pass(8);
        CHECKS.due(15, x.waitsFor(0));
        x.pass(4);
        CHECKS.due(WRITTEN_OFF, x.stateOf(0));
        CHECKS.due(OVERDUE, x.stateOf(1));
    }

    @Sentence(of = "Promise 6", says = "`grace`: 1 to 60 days")
    static void graceTimes() {
        for (int grace : new int[] {1, 2, 59, 60}) {
            CHECKS.answers(10, CollectionsEngine::new, x -> x.setTimes(grace, 5));
            CollectionsEngine x = Runs.inGrace(grace, 5);
            CHECKS.due(1 + grace, x.waitsFor(0));
            Runs.upTo(x, grace);
            CHECKS.due(GRACE, x.stateOf(0));
            x.pass(1);
            CHECKS.due(OVERDUE, x.stateOf(0));
        }
    }

    @Sentence(of = "Promise 6", says = "`overdue`: 1 to 90 days")
    static void overdueTimes() {
        for (int overdue : new int[] {1, 2, 89, 90}) {
            CHECKS.answers(10, CollectionsEngine::new, x -> x.setTimes(5, overdue));
            CollectionsEngine x = Runs.overdue(overdue);
            CHECKS.due(2 + overdue, x.waitsFor(0));
            Runs.upTo(x, 1 + overdue);
            CHECKS.due(OVERDUE, x.stateOf(0));
            x.pass(1);
            CHECKS.due(WRITTEN_OFF, x.stateOf(0));
        }
    }

    @Sentence(of = "Promise 6", says = "Returns the grace time before.")
    static void graceTimeBefore() {
        CollectionsEngine x = new CollectionsEngine();
        CHECKS.due(10, x.setTimes(60, 1));
        CHECKS.due(60, x.setTimes(60, 90));
        CHECKS.due(60, x.setTimes(1, 90));
        CHECKS.due(1, x.setTimes(30, 30));
        CHECKS.due(30, x.setTimes(10, 30));
    }

    @Sentence(of = "Promise 6", says = "Throws `IllegalArgumentException` if grace or overdue is out of range")
    static void timesOutOfRange() {
        Checks.Maker maker = () -> Runs.inGrace(3, 4);
        for (int grace : new int[] {0, 61, 90, -1, MIN, MAX}) {
            CHECKS.refused(maker, Checks.NO_ARGUMENT, x -> x.setTimes(grace, 5));
            CHECKS.refused(maker, Checks.NO_ARGUMENT, x -> x.setTimes(grace, 0));
        }
        for (int overdue : new int[] {0, 91, -1, MIN, MAX}) {
            CHECKS.refused(maker, Checks.NO_ARGUMENT, x -> x.setTimes(5, overdue));
        }
    }
}
