/** What the document says under "Terms": days, bills, how a day passes, service, events and exceptions. */
public final class TermsTest implements Names {
    private static final Checks CHECKS = new Checks();
    private static final int[][] FIRST_ROWS = {{3, 5, 7}, {7, 7}, {}, {1, 1, 1, 1}};

    public static void main(String[] args) {
        CHECKS.run(TermsTest.class);
    }

    // ---- the number of calls

    /** Behind 511 calls: on day 30480, a Wednesday, come a holiday, a bill, and 60 more days. */
    private static CollectionsEngine beforeTheLastCall() {
        CollectionsEngine x = new CollectionsEngine();
        for (int call = 1; call <= 508; call++) {
            x.pass(60);
        }
        x.addHoliday(30538);
        x.bill(7, 9999);
        x.pass(60);
        return x;
    }

    @Sentence(of = "What it is", says = "An object is used for at most 512 calls after it has been made;")
    static void lastCall() {
        CHECKS.answers(30540, TermsTest::beforeTheLastCall, x -> x.today());
        CHECKS.answers(false, TermsTest::beforeTheLastCall, x -> x.isCharging(30538));
        CHECKS.answers(true, TermsTest::beforeTheLastCall, x -> x.isCharging(30537));
        CHECKS.answers(true, TermsTest::beforeTheLastCall, x -> x.addHoliday(30600));
        CHECKS.answers(13, TermsTest::beforeTheLastCall, x -> x.events());
        CHECKS.answers(30527005, TermsTest::beforeTheLastCall, x -> x.event(0));
        CHECKS.answers(30480000, TermsTest::beforeTheLastCall, x -> x.event(12));
        CHECKS.answers(OVERDUE, TermsTest::beforeTheLastCall, x -> x.stateAt(0, 30526));
        CHECKS.answers(NONE, TermsTest::beforeTheLastCall, x -> x.stateAt(0, 30479));
        CHECKS.answers(1, TermsTest::beforeTheLastCall, x -> x.bill(0, 1));
        CHECKS.answers(9998, TermsTest::beforeTheLastCall, x -> x.pay(0, 1));
        CHECKS.answers(0, TermsTest::beforeTheLastCall, x -> x.pass(60));
    }

    /** No holiday that a later call tells of is later than this one: today is day 30600, and that one a Monday. */
    @Sentence(of = "What it is", says = "An object is used for at most 512 calls after it has been made;")
    static void latestHoliday() {
        CollectionsEngine x = new CollectionsEngine();
        for (int call = 1; call <= 510; call++) {
            x.pass(60);
        }
        CHECKS.due(true, x.addHoliday(30660));
        CHECKS.due(false, x.isCharging(30660));
    }

    // ---- days

    @Sentence(of = "Days", says = {"The days are numbered from 0;", "day 0 is a Monday,",
        "and the weekday of a day is its number modulo 7."})
    static void weekdaysOfDays() {
        CHECKS.answers(0, CollectionsEngine::new, x -> x.today());
        for (int kept : Checks.range(0, 6)) {
            CollectionsEngine x = Runs.oneWeekday(kept);
            for (int day : Checks.range(0, 20)) {
                CHECKS.due(day % 7 == kept, x.isCharging(day));
            }
            for (int day : Checks.range(999980, 1000000)) {
                CHECKS.due(day % 7 == kept, x.isCharging(day));
            }
        }
    }

    @Sentence(of = "Days", says =
        "A day is a charging day if its weekday is one (at first 0 to 4, Monday to Friday), and it is no holiday")
    static void chargingDays() {
        CollectionsEngine x = new CollectionsEngine();
        for (int day : Checks.range(0, 27)) {
            CHECKS.due(day % 7 <= 4, x.isCharging(day));
        }
        x.addHoliday(4);
        x.addHoliday(5);
        x.setWeekday(5, true);
        x.setWeekday(0, false);
        for (int day : Checks.range(0, 27)) {
            boolean isWeekday = day % 7 >= 1 && day % 7 <= 5;
            CHECKS.due(isWeekday && day != 4 && day != 5, x.isCharging(day));
        }
        x.pass(20);
        CHECKS.due(false, x.isCharging(4));
        CHECKS.due(false, x.isCharging(5));
        CHECKS.due(true, x.isCharging(11));
        CHECKS.due(true, x.isCharging(12));
    }

    @Sentence(of = "Days", says = "(at first there are none)")
    static void noHolidaysAtFirst() {
        CollectionsEngine x = Runs.everyDay();
        for (int day : Checks.range(0, 400)) {
            CHECKS.due(true, x.isCharging(day));
        }
        CollectionsEngine late = Runs.everyDay();
        for (int day = 27; day <= 1000000; day += 2500) {
            CHECKS.due(true, late.isCharging(day));
        }
    }

    // ---- bills

    @Sentence(of = "Bills", says = "There are the accounts 0 to 7,")
    static void accounts() {
        for (int account : Checks.range(0, 7)) {
            CHECKS.answers(0, CollectionsEngine::new, x -> x.bill(account, 1));
            CHECKS.answers(FULL, CollectionsEngine::new, x -> x.service(account));
            CHECKS.answers(0, CollectionsEngine::new, x -> x.leftIn(account, OPEN));
        }
        for (int account : new int[] {-1, 8}) {
            CHECKS.refused(CollectionsEngine::new, Checks.NO_INDEX, x -> x.bill(account, 1));
            CHECKS.refused(CollectionsEngine::new, Checks.NO_INDEX, x -> x.service(account));
            CHECKS.refused(CollectionsEngine::new, Checks.NO_INDEX, x -> x.leftIn(account, OPEN));
        }
    }

    @Sentence(of = "Bills", says = "and at most 30 bills, numbered from 0.")
    static void numbersOfBills() {
        CHECKS.answers(0, CollectionsEngine::new, x -> x.bill(0, 1));
        CHECKS.answers(28, () -> Runs.made(28), x -> x.bill(0, 1));
        CHECKS.answers(29, () -> Runs.made(29), x -> x.bill(0, 1));
        CHECKS.answers(OPEN, () -> Runs.made(30), x -> x.stateOf(29));
        CHECKS.refused(() -> Runs.made(30), Checks.NO_STATE, x -> x.bill(0, 1));
        CHECKS.refused(() -> Runs.made(30), Checks.NO_INDEX, x -> x.stateOf(30));
    }

    @Sentence(of = "Bills", says = "A bill belongs to an account, and has an amount, and what is left of it to pay.")
    static void accountAndAmount() {
        CollectionsEngine x = new CollectionsEngine();
        x.bill(2, 50);
        x.bill(2, 7);
        x.bill(6, 300);
        x.pay(0, 49);
        CHECKS.due(1, x.left(0));
        CHECKS.due(7, x.left(1));
        CHECKS.due(8, x.leftIn(2, OPEN));
        CHECKS.due(300, x.leftIn(6, OPEN));
        CHECKS.due(357, x.billed());
    }

    @Sentence(of = "Bills", says = "It is in one of these states:")
    static void states() {
        for (int state : Checks.range(OPEN, PAID)) {
            CHECKS.answers(state, Runs::states, x -> x.stateOf(state));
        }
    }

    @Sentence(of = "Bills", says = {"OPEN: it waits for its next try, a day.",
        "TRYING: it is being charged, and its outcome is awaited."})
    static void openAndTrying() {
        CollectionsEngine x = Runs.tried(1);
        CHECKS.due(NONE, x.waitsFor(0));
        CHECKS.due(OPEN, x.outcome(0, EXPIRED));
        CHECKS.due(8, x.waitsFor(0));
        CHECKS.due(0, x.pass(6));
        CHECKS.due(OPEN, x.stateOf(0));
        CHECKS.due(8, x.waitsFor(0));
        CHECKS.due(1, x.pass(1));
        CHECKS.due(TRYING, x.stateOf(0));
        CHECKS.due(NONE, x.waitsFor(0));
        CHECKS.due(PAID, x.outcome(0, SUCCESS));
    }

    @Sentence(of = "Bills", says = "GRACE and OVERDUE: its clock runs until an end, a day.")
    static void clocks() {
        CollectionsEngine x = Runs.inGrace(2, 3);
        int[] due = {GRACE, GRACE, OVERDUE, OVERDUE, OVERDUE, WRITTEN_OFF};
        int[] waits = {3, 3, 6, 6, 6, NONE};
        for (int day : Checks.range(1, 6)) {
            CHECKS.due(due[day - 1], x.stateOf(0));
            CHECKS.due(waits[day - 1], x.waitsFor(0));
            x.pass(1);
        }
    }

    @Sentence(of = "Bills", says = "PROMISED: likewise; the state ahead of it is kept.")
    static void promisedKeepsTheStateAhead() {
        for (int bill : new int[] {OPEN, GRACE, OVERDUE}) {
            CollectionsEngine x = Runs.states();
            x.promise(bill, 2);
            CHECKS.due(5, x.waitsFor(bill));
            x.pass(1);
            CHECKS.due(PROMISED, x.stateOf(bill));
            CHECKS.due(5, x.waitsFor(bill));
            x.pass(1);
            CHECKS.due(bill, x.stateOf(bill));
        }
    }

    @Sentence(of = "Bills", says = "WRITTEN_OFF, PAID.")
    static void endsOfBills() {
        for (int bill : new int[] {WRITTEN_OFF, PAID}) {
            CollectionsEngine x = Runs.states();
            CHECKS.due(NONE, x.waitsFor(bill));
            Runs.upTo(x, 300);
            CHECKS.due(bill, x.stateOf(bill));
            CHECKS.due(NONE, x.waitsFor(bill));
            CHECKS.due(bill, x.stateAt(bill, 3));
        }
    }

    @Sentence(of = "Bills", says =
        "A new bill is OPEN, with its next try on the first charging day later than today.")
    static void firstTry() {
        int[] due = {1, 2, 3, 4, 7, 7, 7, 8};
        for (int day : Checks.range(0, 7)) {
            CollectionsEngine x = Runs.upTo(new CollectionsEngine(), day);
            x.bill(0, 1);
            CHECKS.due(OPEN, x.stateOf(0));
            CHECKS.due(due[day], x.waitsFor(0));
        }
        for (int kept : Checks.range(0, 6)) {
            CollectionsEngine x = Runs.oneWeekday(kept);
            x.bill(0, 1);
            CHECKS.due(kept == 0 ? 7 : kept, x.waitsFor(0));
        }
        CollectionsEngine holidays = new CollectionsEngine();
        for (int day : Checks.range(1, 60)) {
            holidays.addHoliday(day);
        }
        holidays.bill(0, 1);
        CHECKS.due(63, holidays.waitsFor(0));
        CHECKS.due(0, holidays.pass(60));
        CHECKS.due(0, holidays.pass(2));
        CHECKS.due(1, holidays.pass(1));
    }

    @Sentence(of = "Bills", says =
        "The outcome of a charge is SUCCESS, or the reason of a failure: NO_MONEY, EXPIRED, BLOCKED or ERROR.")
    static void outcomes() {
        for (int outcome : Checks.range(SUCCESS, ERROR)) {
            CollectionsEngine x = Runs.tried(1);
            x.outcome(0, outcome);
            for (int reason : Checks.range(NO_MONEY, ERROR)) {
                CHECKS.due(reason == outcome ? 1 : 0, x.failures(0, reason));
            }
            CHECKS.due(outcome == SUCCESS, x.stateOf(0) == PAID);
        }
    }

    @Sentence(of = "Bills", says = {
        "For each reason there is a row of gaps, in days: at first 3, 5, 7 for NO_MONEY; 7, 7 for EXPIRED; none for "
            + "BLOCKED; 1, 1, 1, 1 for ERROR.",
        "With a failure that is the k-th one of the bill for this reason: if the row has at least k gaps, the bill is "
            + "OPEN again,"})
    static void firstRows() {
        for (int reason : Checks.range(NO_MONEY, ERROR)) {
            CollectionsEngine x = Runs.everyDay();
            x.bill(0, 1);
            x.pass(1);
            for (int gap : FIRST_ROWS[reason - 1]) {
                CHECKS.due(OPEN, x.outcome(0, reason));
                CHECKS.due(x.today() + gap, x.waitsFor(0));
                CHECKS.due(1, x.pass(gap));
            }
            CHECKS.due(GRACE, x.outcome(0, reason));
            CHECKS.due(FIRST_ROWS[reason - 1].length + 1, x.failures(0, reason));
        }
    }

    @Sentence(of = "Bills", says = "With SUCCESS all that is left is paid.")
    static void success() {
        for (int paid : new int[] {1, 50, 98, 99}) {
            CollectionsEngine x = Runs.made(2);
            x.pay(0, paid);
            x.pass(1);
            CHECKS.due(100 - paid, x.left(0));
            CHECKS.due(paid, x.paid());
            CHECKS.due(PAID, x.outcome(0, SUCCESS));
            CHECKS.due(0, x.left(0));
            CHECKS.due(100, x.paid());
            CHECKS.due(100, x.left(1));
            CHECKS.due(0, x.broughtBack());
        }
    }

    @Sentence(of = "Bills", says =
        "With a failure that is the k-th one of the bill for this reason: if the row has at least k gaps, the bill is "
            + "OPEN again,")
    static void failuresCountForABillAndAReason() {
        CollectionsEngine x = Runs.everyDay();
        x.bill(0, 1);
        x.bill(0, 1);
        x.pass(1);
        x.outcome(0, NO_MONEY);
        x.outcome(1, EXPIRED);
        CHECKS.due(4, x.waitsFor(0));
        CHECKS.due(8, x.waitsFor(1));
        x.pass(3);
        x.outcome(0, EXPIRED);
        CHECKS.due(11, x.waitsFor(0));
        x.pass(4);
        x.outcome(1, NO_MONEY);
        CHECKS.due(11, x.waitsFor(1));
        x.pass(3);
        x.outcome(0, NO_MONEY);
        x.outcome(1, NO_MONEY);
        CHECKS.due(16, x.waitsFor(0));
        CHECKS.due(16, x.waitsFor(1));
        x.pass(5);
        CHECKS.due(OPEN, x.outcome(0, EXPIRED));
        CHECKS.due(OPEN, x.outcome(1, EXPIRED));
        x.pass(7);
        CHECKS.due(GRACE, x.outcome(0, EXPIRED));
        CHECKS.due(OPEN, x.outcome(1, NO_MONEY));
        CHECKS.due(30, x.waitsFor(1));
        x.pass(7);
        CHECKS.due(GRACE, x.outcome(1, NO_MONEY));
    }

    /** The row may be another at each failure: what it has then is what counts. */
    @Sentence(of = "Bills", says =
        "With a failure that is the k-th one of the bill for this reason: if the row has at least k gaps, the bill is "
            + "OPEN again,")
    static void rowsAsLongAsTheFailures() {
        for (int gaps : Checks.range(0, 6)) {
            for (int failures : Checks.range(1, 6)) {
                CollectionsEngine x = Runs.everyDay();
                for (int gap : Checks.range(1, 6)) {
                    x.addGap(BLOCKED, 1);
                }
                x.bill(0, 1);
                x.pass(1);
                for (int failed : Checks.range(1, failures - 1)) {
                    x.outcome(0, BLOCKED);
                    x.pass(1);
                }
                x.clearGaps(BLOCKED);
                for (int gap : Checks.range(1, gaps)) {
                    x.addGap(BLOCKED, 10 + gap);
                }
                CHECKS.due(gaps >= failures ? OPEN : GRACE, x.outcome(0, BLOCKED));
                CHECKS.due(x.today() + 10 + (gaps >= failures ? failures : 0), x.waitsFor(0));
            }
        }
    }

    @Sentence(of = "Bills", says =
        "with its next try on the first charging day that is today and the k-th gap, together, or later;")
    static void nextTry() {
        int[] due = {2, 3, 4, 7, 7, 7, 8, 9, 10, 11, 14};
        for (int gap : Checks.range(1, 11)) {
            CollectionsEngine x = Runs.tried(1);
            x.addGap(BLOCKED, gap);
            CHECKS.due(OPEN, x.outcome(0, BLOCKED));
            CHECKS.due(due[gap - 1], x.waitsFor(0));
        }
        CollectionsEngine x = Runs.tried(2);
        x.addHoliday(4);
        x.addHoliday(7);
        x.addHoliday(9);
        CHECKS.due(OPEN, x.outcome(0, NO_MONEY));
        CHECKS.due(8, x.waitsFor(0));
        CHECKS.due(OPEN, x.outcome(1, EXPIRED));
        CHECKS.due(8, x.waitsFor(1));
    }

    @Sentence(of = "Bills", says =
        "otherwise it is in GRACE, with its end the grace time from today on (at first 10 days).")
    static void graceTime() {
        CollectionsEngine x = Runs.tried(2);
        CHECKS.due(GRACE, x.outcome(0, BLOCKED));
        CHECKS.due(11, x.waitsFor(0));
        x.setTimes(4, 1);
        CHECKS.due(GRACE, x.outcome(1, BLOCKED));
        CHECKS.due(5, x.waitsFor(1));
        Runs.upTo(x, 10);
        CHECKS.due(GRACE, x.stateOf(0));
        x.pass(1);
        CHECKS.due(OVERDUE, x.stateOf(0));
        CollectionsEngine later = Runs.made(1);
        Runs.upTo(later, 7);
        CHECKS.due(GRACE, later.outcome(0, ERROR));
        CHECKS.due(17, later.waitsFor(0));
    }

    @Sentence(of = "Bills", says = "When all that is left of a bill is paid, it is PAID,")
    static void allPaid() {
        for (int bill : new int[] {OPEN, GRACE, OVERDUE, PROMISED, WRITTEN_OFF}) {
            CollectionsEngine x = Runs.states();
            CHECKS.due(1, x.pay(bill, 99 + bill));
            CHECKS.due(bill, x.stateOf(bill));
            CHECKS.due(0, x.pay(bill, 1));
            CHECKS.due(PAID, x.stateOf(bill));
        }
    }

    /** Each of the bills would come into another state on one of these days, if it were not paid. */
    @Sentence(of = "Bills", says = "and never anything else again.")
    static void paidForEver() {
        CollectionsEngine x = Runs.states();
        x.outcome(TRYING, SUCCESS);
        for (int bill : new int[] {OPEN, GRACE, OVERDUE, PROMISED, WRITTEN_OFF}) {
            x.pay(bill, 100 + bill);
        }
        int events = x.events();
        CHECKS.due(0, Runs.upTo(x, 200).pass(60));
        CHECKS.due(events, x.events());
        CHECKS.due(0, x.broken(PROMISED));
        for (int bill : Checks.range(0, 6)) {
            CHECKS.due(PAID, x.stateOf(bill));
            CHECKS.due(Checks.NO_STATE.getName(), Checks.answer(x, each -> each.outcome(bill, SUCCESS)));
            CHECKS.due(Checks.NO_STATE.getName(), Checks.answer(x, each -> each.pay(bill, 1)));
            CHECKS.due(Checks.NO_STATE.getName(), Checks.answer(x, each -> each.promise(bill, 1)));
            CHECKS.due(PAID, x.stateOf(bill));
        }
    }

    // ---- a day passes

    private static void eventsAre(CollectionsEngine x, int... latestFirst) {
        for (int back : Checks.range(0, latestFirst.length - 1)) {
            CHECKS.due(latestFirst[back], x.event(back));
        }
    }

    @Sentence(of = "A day passes", says =
        "First, bills that are TRYING get the outcome ERROR, by rising numbers.")
    static void unansweredTries() {
        CollectionsEngine x = Runs.tried(4);
        x.setTimes(7, 8);
        x.outcome(1, BLOCKED);
        x.outcome(3, SUCCESS);
        CHECKS.due(2, x.pass(1));
        eventsAre(x, 2021, 2001, 1020, 1000, 1036, 1012);
        for (int bill : Checks.range(0, 3)) {
            CHECKS.due(bill % 2 == 0 ? 1 : 0, x.failures(bill, ERROR));
        }
        x.clearGaps(ERROR);
        CHECKS.due(0, x.pass(1));
        eventsAre(x, 2022, 2002, 2021);
        CHECKS.due(9, x.waitsFor(0));
        CHECKS.due(9, x.waitsFor(2));
        CHECKS.due(2, x.failures(0, ERROR));
    }

    /** The gap of an unanswered try is of the day before: Friday and 1 are Saturday, Friday and 3 are Monday. */
    @Sentence(of = "A day passes", says =
        "First, bills that are TRYING get the outcome ERROR, by rising numbers.")
    static void unansweredTriesBelongToTheDayBefore() {
        int[] due = {7, 7, 7, 8};
        for (int gap : Checks.range(1, 4)) {
            CollectionsEngine x = Runs.upTo(new CollectionsEngine(), 3);
            x.clearGaps(ERROR);
            x.addGap(ERROR, gap);
            x.bill(0, 1);
            CHECKS.due(1, x.pass(1));
            CHECKS.due(0, x.pass(1));
            eventsAre(x, 4000, 4001);
            CHECKS.due(due[gap - 1], x.waitsFor(0));
        }
    }

    @Sentence(of = "A day passes", says = "Then the day becomes 1 more, and each bill, by rising numbers,")
    static void billsInOrder() {
        CollectionsEngine x = new CollectionsEngine();
        x.setTimes(1, 1);
        for (int bill : Checks.range(0, 4)) {
            x.bill(0, 1);
        }
        x.promise(0, 2);
        CHECKS.due(4, x.pass(1));
        x.outcome(1, BLOCKED);
        x.outcome(2, BLOCKED);
        x.promise(2, 1);
        x.bill(0, 1);
        CHECKS.due(3, x.pass(1));
        CHECKS.due(2, x.today());
        eventsAre(x, 2051, 2041, 2031, 2022, 2013, 2000, 1040, 1030, 1050, 1024, 1022, 1012);
        CHECKS.due(4, x.pass(1));
        eventsAre(x, 3051, 3041, 3031, 3023, 3015, 3001, 2050, 2040, 2030);
    }

    /** A bill takes one step a day, even where its next one would be due on the same day. */
    @Sentence(of = "A day passes", says = "is looked at once:")
    static void oneStepADay() {
        CollectionsEngine x = Runs.inGrace(1, 1);
        x.pass(1);
        CHECKS.due(OVERDUE, x.stateOf(0));
        x.pass(1);
        CHECKS.due(WRITTEN_OFF, x.stateOf(0));
        CollectionsEngine broken = Runs.everyDay();
        broken.bill(0, 1);
        broken.promise(0, 1);
        CHECKS.due(0, broken.pass(1));
        CHECKS.due(OPEN, broken.stateOf(0));
        CHECKS.due(1, broken.pass(1));
        CollectionsEngine unanswered = Runs.tried(1);
        unanswered.setTimes(1, 1);
        unanswered.clearGaps(ERROR);
        unanswered.pass(1);
        eventsAre(unanswered, 2003, 1002, 1001);
        CHECKS.due(3, unanswered.waitsFor(0));
        unanswered.pass(1);
        eventsAre(unanswered, 3005, 2003);
    }

    @Sentence(of = "A day passes", says = {"OPEN, with a next try that is today or earlier:",
        "if today is a charging day, it is TRYING, and has one more try;"})
    static void triesOfOpenBills() {
        CollectionsEngine x = Runs.tried(1);
        CHECKS.due(1, x.tries(0));
        x.outcome(0, NO_MONEY);
        CHECKS.due(0, x.pass(2));
        CHECKS.due(OPEN, x.stateOf(0));
        CHECKS.due(1, x.tries(0));
        CHECKS.due(1, x.pass(1));
        CHECKS.due(TRYING, x.stateOf(0));
        CHECKS.due(2, x.tries(0));
        eventsAre(x, 4001, 1000);
    }

    @Sentence(of = "A day passes", says = "otherwise its next try is the first charging day later than today.")
    static void triesThatMove() {
        CollectionsEngine x = Runs.made(1);
        x.addHoliday(1);
        CHECKS.due(1, x.waitsFor(0));
        CHECKS.due(0, x.pass(1));
        CHECKS.due(OPEN, x.stateOf(0));
        CHECKS.due(2, x.waitsFor(0));
        CHECKS.due(0, x.tries(0));
        CHECKS.due(1, x.events());
        x.setWeekday(2, false);
        x.addHoliday(3);
        x.addHoliday(4);
        CHECKS.due(2, x.waitsFor(0));
        CHECKS.due(0, x.pass(1));
        CHECKS.due(7, x.waitsFor(0));
        x.setWeekday(5, true);
        CHECKS.due(0, x.pass(4));
        CHECKS.due(1, x.pass(1));
        CHECKS.due(2, x.events());
        x.addHoliday(8);
        x.setWeekday(0, false);
        CHECKS.due(TRYING, x.stateOf(0));
    }

    @Sentence(of = "A day passes", says =
        "GRACE, with an end that is today: it is OVERDUE, with its end the overdue time from today on")
    static void graceEnds() {
        for (int overdue : new int[] {1, 45, 90}) {
            CollectionsEngine x = Runs.inGrace(10, 7);
            x.pass(9);
            CHECKS.due(GRACE, x.stateOf(0));
            CHECKS.due(11, x.waitsFor(0));
            x.setTimes(33, overdue);
            CHECKS.due(0, x.pass(1));
            CHECKS.due(OVERDUE, x.stateOf(0));
            CHECKS.due(11 + overdue, x.waitsFor(0));
            eventsAre(x, 11003, 1002);
        }
    }

    @Sentence(of = "A day passes", says = "(at first 30 days)")
    static void overdueTimeAtFirst() {
        CollectionsEngine x = Runs.tried(1);
        x.outcome(0, BLOCKED);
        x.pass(10);
        CHECKS.due(41, x.waitsFor(0));
        x.pass(29);
        CHECKS.due(OVERDUE, x.stateOf(0));
        x.pass(1);
        CHECKS.due(WRITTEN_OFF, x.stateOf(0));
        eventsAre(x, 41005, 11003, 1002);
    }

    @Sentence(of = "A day passes", says =
        "OVERDUE, with an end that is today: it is WRITTEN_OFF, and what is left of it is written off.")
    static void overdueEnds() {
        for (int paid : new int[] {0, 1, 99}) {
            CollectionsEngine x = Runs.overdue(5);
            if (paid > 0) {
                x.pay(0, paid);
            }
            x.pass(4);
            CHECKS.due(OVERDUE, x.stateOf(0));
            CHECKS.due(0, x.writtenOff());
            CHECKS.due(0, x.pass(1));
            CHECKS.due(WRITTEN_OFF, x.stateOf(0));
            CHECKS.due(NONE, x.waitsFor(0));
            CHECKS.due(100 - paid, x.writtenOff());
            CHECKS.due(100 - paid, x.left(0));
            eventsAre(x, 7005, 2003);
        }
    }

    @Sentence(of = "A day passes", says =
        "PROMISED, with an end that is today: the promise is broken, and it is in the state ahead of it again:")
    static void promiseEnds() {
        for (int bill : new int[] {OPEN, GRACE, OVERDUE}) {
            for (int days : new int[] {1, 30}) {
                CollectionsEngine x = Runs.states();
                x.promise(bill, days);
                Runs.upTo(x, 2 + days);
                CHECKS.due(PROMISED, x.stateOf(bill));
                CHECKS.due(0, x.broken(bill));
                x.pass(1);
                CHECKS.due(bill, x.stateOf(bill));
                CHECKS.due(1, x.broken(bill));
                CHECKS.due(bill, x.stateAt(bill, 3 + days));
                CHECKS.due(PROMISED, x.stateAt(bill, 2 + days));
            }
        }
    }

    @Sentence(of = "A day passes", says = "OPEN with its next try on the first charging day later than today;")
    static void openBehindAPromise() {
        int[] due = {0, 2, 3, 4, 7, 7, 7, 8};
        for (int days : Checks.range(1, 7)) {
            CollectionsEngine x = Runs.made(1);
            x.promise(0, days);
            CHECKS.due(0, x.pass(days));
            CHECKS.due(OPEN, x.stateOf(0));
            CHECKS.due(due[days], x.waitsFor(0));
        }
        CollectionsEngine holiday = Runs.made(1);
        holiday.promise(0, 4);
        holiday.addHoliday(7);
        holiday.pass(4);
        CHECKS.due(8, holiday.waitsFor(0));
        CollectionsEngine farTry = Runs.tried(1);
        farTry.outcome(0, EXPIRED);
        CHECKS.due(8, farTry.waitsFor(0));
        farTry.promise(0, 1);
        farTry.pass(1);
        CHECKS.due(3, farTry.waitsFor(0));
        CHECKS.due(1, farTry.pass(1));
    }

    @Sentence(of = "A day passes", says =
        "GRACE and OVERDUE with as many days to their end as were left when it was promised.")
    static void daysLeftBehindAPromise() {
        for (int left : new int[] {1, 2, 9, 10}) {
            for (int days : new int[] {1, 30}) {
                CollectionsEngine grace = Runs.inGrace(10, 10);
                Runs.upTo(grace, 11 - left);
                daysAreKept(grace, GRACE, OVERDUE, left, days);
                CollectionsEngine overdue = Runs.overdue(10);
                Runs.upTo(overdue, 12 - left);
                daysAreKept(overdue, OVERDUE, WRITTEN_OFF, left, days);
            }
        }
    }

    private static void daysAreKept(CollectionsEngine x, int state, int next, int left, int days) {
        int today = x.today();
        CHECKS.due(today + left, x.waitsFor(0));
        CHECKS.due(today + days, x.promise(0, days));
        x.setTimes(50, 60);
        x.pass(days);
        CHECKS.due(state, x.stateOf(0));
        CHECKS.due(today + days + left, x.waitsFor(0));
        Runs.upTo(x, today + days + left - 1);
        CHECKS.due(state, x.stateOf(0));
        x.pass(1);
        CHECKS.due(next, x.stateOf(0));
    }

    /** The second promise holds the days that were left when it was taken, not those of the first. */
    @Sentence(of = "A day passes", says =
        "GRACE and OVERDUE with as many days to their end as were left when it was promised.")
    static void daysLeftBehindTwoPromises() {
        CollectionsEngine x = Runs.inGrace(10, 8);
        x.pass(2);
        x.promise(0, 5);
        x.pass(5);
        CHECKS.due(16, x.waitsFor(0));
        x.pass(6);
        x.promise(0, 30);
        x.pass(30);
        CHECKS.due(GRACE, x.stateOf(0));
        CHECKS.due(46, x.waitsFor(0));
        x.pass(2);
        CHECKS.due(OVERDUE, x.stateOf(0));
        CHECKS.due(54, x.waitsFor(0));
    }

    // ---- service

    /** The bills of {@link Runs#states}, of 100 each; account 0 has those in these states, account 1 all others. */
    private static CollectionsEngine inAccountZero(int... states) {
        CollectionsEngine x = new CollectionsEngine();
        for (int state : Checks.range(OPEN, PAID)) {
            int account = 1;
            for (int each : states) {
                account = each == state ? 0 : account;
            }
            x.bill(account, 100);
        }
        Runs.intoStates(x);
        return x;
    }

    @Sentence(of = "Service", says = "The service of an account is CUT if one of its bills is OVERDUE or WRITTEN_OFF;")
    static void cut() {
        CHECKS.answers(CUT, () -> inAccountZero(OVERDUE), x -> x.service(0));
        CHECKS.answers(CUT, () -> inAccountZero(WRITTEN_OFF), x -> x.service(0));
        CHECKS.answers(CUT, () -> inAccountZero(OPEN, TRYING, GRACE, OVERDUE), x -> x.service(0));
        CHECKS.answers(CUT, () -> inAccountZero(GRACE, PROMISED, WRITTEN_OFF, PAID), x -> x.service(0));
        CHECKS.answers(CUT, () -> inAccountZero(), x -> x.service(1));
        CHECKS.answers(FULL, () -> inAccountZero(), x -> x.service(0));
        CHECKS.answers(FULL, () -> inAccountZero(), x -> x.service(7));
        CHECKS.answers(BASIC, () -> inAccountZero(OPEN, TRYING, GRACE, PROMISED, PAID), x -> x.service(0));
    }

    @Sentence(of = "Service", says = "otherwise BASIC if one is in GRACE, or PROMISED from GRACE or OVERDUE;")
    static void basic() {
        CHECKS.answers(BASIC, () -> inAccountZero(GRACE), x -> x.service(0));
        CHECKS.answers(BASIC, () -> inAccountZero(OPEN, TRYING, GRACE, PAID), x -> x.service(0));
        for (int bill : new int[] {GRACE, OVERDUE}) {
            CollectionsEngine x = inAccountZero(OPEN, bill);
            x.promise(bill, 1);
            CHECKS.due(BASIC, x.service(0));
            x.promise(OPEN, 1);
            CHECKS.due(BASIC, x.service(0));
            x.pass(1);
            CHECKS.due(bill == GRACE ? BASIC : CUT, x.service(0));
            x.promise(bill, 1);
            CHECKS.due(BASIC, x.service(0));
        }
        CollectionsEngine both = inAccountZero(GRACE, OVERDUE);
        both.promise(GRACE, 1);
        CHECKS.due(CUT, both.service(0));
        both.promise(OVERDUE, 1);
        CHECKS.due(BASIC, both.service(0));
    }

    @Sentence(of = "Service", says = {
        "The service of an account is CUT if one of its bills is OVERDUE or WRITTEN_OFF;",
        "otherwise BASIC if one is in GRACE, or PROMISED from GRACE or OVERDUE;"})
    static void anyOneOfThirtyBills() {
        for (int bill : Checks.range(0, 29)) {
            CollectionsEngine x = Runs.tried(30);
            x.setTimes(1, 1);
            CHECKS.due(FULL, x.service(0));
            x.outcome(bill, BLOCKED);
            CHECKS.due(BASIC, x.service(0));
            x.promise(bill, 1);
            CHECKS.due(BASIC, x.service(0));
            x.pass(2);
            CHECKS.due(OVERDUE, x.stateOf(bill));
            CHECKS.due(CUT, x.service(0));
            x.pay(bill, 100);
            CHECKS.due(FULL, x.service(0));
        }
    }

    /** What counts is the state ahead of the promise that holds now, not the one ahead of an earlier promise. */
    @Sentence(of = "Service", says = "otherwise BASIC if one is in GRACE, or PROMISED from GRACE or OVERDUE;")
    static void basicByTheSecondPromise() {
        CollectionsEngine x = Runs.made(1);
        x.promise(0, 1);
        CHECKS.due(FULL, x.service(0));
        x.pass(2);
        x.outcome(0, BLOCKED);
        CHECKS.due(BASIC, x.service(0));
        x.promise(0, 1);
        CHECKS.due(BASIC, x.service(0));
    }

    @Sentence(of = "Service", says = "otherwise FULL.")
    static void full() {
        CHECKS.answers(FULL, CollectionsEngine::new, x -> x.service(0));
        for (int state : new int[] {OPEN, TRYING, PROMISED, PAID}) {
            CHECKS.answers(FULL, () -> inAccountZero(state), x -> x.service(0));
        }
        CHECKS.answers(FULL, () -> inAccountZero(OPEN, TRYING, PROMISED, PAID), x -> x.service(0));
        CollectionsEngine x = inAccountZero(GRACE, OVERDUE, WRITTEN_OFF);
        x.pay(WRITTEN_OFF, 99);
        x.pay(OVERDUE, 100);
        CHECKS.due(CUT, x.service(0));
        x.pay(WRITTEN_OFF, 1);
        CHECKS.due(BASIC, x.service(0));
        x.promise(GRACE, 5);
        x.pay(GRACE, 100);
        CHECKS.due(FULL, x.service(0));
    }

    // ---- events

    @Sentence(of = "Events", says = "Each change of the state of a bill is an event, its beginning too;")
    static void changesAreEvents() {
        CHECKS.answers(0, CollectionsEngine::new, x -> x.events());
        CHECKS.answers(1, () -> Runs.made(1), x -> x.events());
        CHECKS.answers(0, () -> Runs.made(1), x -> x.event(0));
        CollectionsEngine x = new CollectionsEngine();
        x.setTimes(1, 1);
        x.bill(0, 2);
        x.promise(0, 1);
        x.pass(1);
        x.pass(1);
        x.outcome(0, ERROR);
        x.pass(1);
        x.outcome(0, BLOCKED);
        x.promise(0, 1);
        x.pass(3);
        x.pay(0, 2);
        CHECKS.due(12, x.events());
        eventsAre(x, 6006, 6005, 5003, 4002, 3004, 3002, 3001, 2000, 2001, 1000, 4, 0);
    }

    @Sentence(of = "Events", says = "Each change of the state of a bill is an event, its beginning too;")
    static void otherChangesAreNone() {
        CollectionsEngine x = Runs.made(2);
        x.pay(0, 99);
        x.addHoliday(1);
        x.setWeekday(2, false);
        x.addGap(BLOCKED, 2);
        x.clearGaps(ERROR);
        x.setTimes(1, 1);
        x.pass(2);
        CHECKS.due(3, x.waitsFor(0));
        CHECKS.due(2, x.events());
    }

    @Sentence(of = "Events", says = "there are at most 400 of them that can be told, the latest ones.")
    static void latestEvents() {
        for (int events : new int[] {399, 400, 401, 402, 420}) {
            Checks.Maker maker = () -> Runs.writtenOff(events - 390);
            CHECKS.answers(events, maker, x -> x.events());
            int lost = Math.max(0, events - 400);
            CHECKS.answers(10 * lost, maker, x -> x.event(events - lost - 1));
            CHECKS.answers(10 * (lost + 1), maker, x -> x.event(events - lost - 2));
            CHECKS.answers(60006 + 10 * (events - 391), maker, x -> x.event(0));
            CHECKS.answers(60006, maker, x -> x.event(events - 391));
            CHECKS.answers(47295, maker, x -> x.event(events - 390));
            CHECKS.refused(maker, Checks.NO_INDEX, x -> x.event(events - lost));
        }
    }

    /** Thirteen tries of thirty bills, 810 events: those of day 7 begin with event 390, at 30 and 60 for each day. */
    private static CollectionsEngine manyEvents() {
        CollectionsEngine x = Runs.everyDay();
        for (int reason : new int[] {BLOCKED, EXPIRED, NO_MONEY}) {
            x.clearGaps(reason);
            for (int gap : Checks.range(1, reason == NO_MONEY ? 1 : 6)) {
                x.addGap(reason, 1);
            }
        }
        for (int bill : Checks.range(0, 29)) {
            x.bill(0, 1);
        }
        for (int day : Checks.range(1, 13)) {
            x.pass(1);
            int reason = day <= 6 ? BLOCKED : day <= 12 ? EXPIRED : NO_MONEY;
            for (int bill : Checks.range(0, 29)) {
                x.outcome(bill, reason);
            }
        }
        return x;
    }

    @Sentence(of = "Events", says = "there are at most 400 of them that can be told, the latest ones.")
    static void latestEventsOfMany() {
        CHECKS.answers(810, TermsTest::manyEvents, x -> x.events());
        CHECKS.answers(13290, TermsTest::manyEvents, x -> x.event(0));
        CHECKS.answers(13000, TermsTest::manyEvents, x -> x.event(29));
        CHECKS.answers(13291, TermsTest::manyEvents, x -> x.event(30));
        CHECKS.answers(7201, TermsTest::manyEvents, x -> x.event(399));
        CHECKS.answers(7211, TermsTest::manyEvents, x -> x.event(398));
        CHECKS.answers(Checks.NO_INDEX.getName(), TermsTest::manyEvents, x -> x.event(400));
        CHECKS.answers(NONE, TermsTest::manyEvents, x -> x.stateAt(20, 6));
        CHECKS.answers(OPEN, TermsTest::manyEvents, x -> x.stateAt(20, 7));
    }

    // ---- exceptions

    @Sentence(of = "Exceptions", says =
        "IndexOutOfBoundsException: there is no such account, bill, reason, weekday or event.")
    static void indexes() {
        for (int none : new int[] {-1, 30, MIN, MAX}) {
            CHECKS.refused(Runs::states, Checks.NO_INDEX, x -> x.bill(none, 1));
            CHECKS.refused(Runs::states, Checks.NO_INDEX, x -> x.service(none));
            CHECKS.refused(Runs::states, Checks.NO_INDEX, x -> x.leftIn(none, OPEN));
            CHECKS.refused(Runs::states, Checks.NO_INDEX, x -> x.stateOf(none));
            CHECKS.refused(Runs::states, Checks.NO_INDEX, x -> x.failures(0, none));
            CHECKS.refused(Runs::states, Checks.NO_INDEX, x -> x.addGap(none, 1));
            CHECKS.refused(Runs::states, Checks.NO_INDEX, x -> x.clearGaps(none));
            CHECKS.refused(Runs::states, Checks.NO_INDEX, x -> x.setWeekday(none, true));
            CHECKS.refused(Runs::states, Checks.NO_INDEX, x -> x.event(none));
        }
    }

    @Sentence(of = "Exceptions", says = "IllegalArgumentException: another argument is out of range.")
    static void arguments() {
        for (int none : new int[] {-1, MIN, MAX}) {
            CHECKS.refused(Runs::states, Checks.NO_ARGUMENT, x -> x.addHoliday(none));
            CHECKS.refused(Runs::states, Checks.NO_ARGUMENT, x -> x.addGap(BLOCKED, none));
            CHECKS.refused(Runs::states, Checks.NO_ARGUMENT, x -> x.setTimes(none, 1));
            CHECKS.refused(Runs::states, Checks.NO_ARGUMENT, x -> x.setTimes(1, none));
            CHECKS.refused(Runs::states, Checks.NO_ARGUMENT, x -> x.bill(0, none));
            CHECKS.refused(Runs::states, Checks.NO_ARGUMENT, x -> x.outcome(TRYING, none));
            CHECKS.refused(Runs::states, Checks.NO_ARGUMENT, x -> x.pay(OPEN, none));
            CHECKS.refused(Runs::states, Checks.NO_ARGUMENT, x -> x.promise(OPEN, none));
            CHECKS.refused(Runs::states, Checks.NO_ARGUMENT, x -> x.pass(none));
            CHECKS.refused(Runs::states, Checks.NO_ARGUMENT, x -> x.isCharging(none));
            CHECKS.refused(Runs::states, Checks.NO_ARGUMENT, x -> x.leftIn(0, none));
            CHECKS.refused(Runs::states, Checks.NO_ARGUMENT, x -> x.stateAt(0, none));
        }
    }

    @Sentence(of = "Exceptions", says = "IllegalStateException: as the method says.")
    static void statesOfCalls() {
        CHECKS.refused(() -> Runs.oneWeekday(3), Checks.NO_STATE, x -> x.setWeekday(3, false));
        CHECKS.refused(TermsTest::fullRow, Checks.NO_STATE, x -> x.addGap(BLOCKED, 1));
        CHECKS.refused(() -> Runs.made(30), Checks.NO_STATE, x -> x.bill(0, 1));
        CHECKS.refused(Runs::states, Checks.NO_STATE, x -> x.outcome(OPEN, SUCCESS));
        CHECKS.refused(Runs::states, Checks.NO_STATE, x -> x.pay(TRYING, 1));
        CHECKS.refused(Runs::states, Checks.NO_STATE, x -> x.promise(TRYING, 1));
    }

    private static CollectionsEngine fullRow() {
        CollectionsEngine x = new CollectionsEngine();
        for (int gap : Checks.range(1, 6)) {
            x.addGap(BLOCKED, gap);
        }
        return x;
    }

    /** Two lines apply to each of these calls, or three; the one before them in the clause is the one that is due. */
    @Sentence(of = "Exceptions", says = {"The first line of a method's throws clause that applies decides;",
        "a call that throws changes nothing."})
    static void firstLineDecides() {
        CHECKS.refused(() -> Runs.oneWeekday(3), Checks.NO_INDEX, x -> x.setWeekday(7, false));
        CHECKS.refused(TermsTest::fullRow, Checks.NO_INDEX, x -> x.addGap(5, 31));
        CHECKS.refused(TermsTest::fullRow, Checks.NO_INDEX, x -> x.addGap(SUCCESS, 0));
        CHECKS.refused(TermsTest::fullRow, Checks.NO_ARGUMENT, x -> x.addGap(BLOCKED, 31));
        CHECKS.refused(TermsTest::fullRow, Checks.NO_ARGUMENT, x -> x.addGap(BLOCKED, 0));
        CHECKS.refused(() -> Runs.made(30), Checks.NO_INDEX, x -> x.bill(8, 10000));
        CHECKS.refused(() -> Runs.made(30), Checks.NO_INDEX, x -> x.bill(-1, 1));
        CHECKS.refused(() -> Runs.made(30), Checks.NO_ARGUMENT, x -> x.bill(0, 10000));
        CHECKS.refused(() -> Runs.made(30), Checks.NO_ARGUMENT, x -> x.bill(7, 0));
        for (int bill : new int[] {-1, 7, 30}) {
            CHECKS.refused(Runs::states, Checks.NO_INDEX, x -> x.outcome(bill, 5));
            CHECKS.refused(Runs::states, Checks.NO_INDEX, x -> x.pay(bill, 0));
            CHECKS.refused(Runs::states, Checks.NO_INDEX, x -> x.promise(bill, 31));
            CHECKS.refused(Runs::states, Checks.NO_INDEX, x -> x.stateAt(bill, 4));
            CHECKS.refused(Runs::states, Checks.NO_INDEX, x -> x.failures(bill, 5));
        }
        CHECKS.refused(Runs::states, Checks.NO_ARGUMENT, x -> x.outcome(OPEN, 5));
        CHECKS.refused(Runs::states, Checks.NO_ARGUMENT, x -> x.outcome(PAID, -1));
        CHECKS.refused(Runs::states, Checks.NO_ARGUMENT, x -> x.pay(TRYING, 10000));
        CHECKS.refused(Runs::states, Checks.NO_ARGUMENT, x -> x.pay(PAID, 0));
        CHECKS.refused(Runs::states, Checks.NO_ARGUMENT, x -> x.pay(OPEN, 10000));
        CHECKS.refused(Runs::states, Checks.NO_ARGUMENT, x -> x.promise(TRYING, 31));
        CHECKS.refused(Runs::states, Checks.NO_ARGUMENT, x -> x.promise(PROMISED, 0));
        CHECKS.refused(Runs::states, Checks.NO_INDEX, x -> x.leftIn(8, 7));
        CHECKS.refused(Runs::states, Checks.NO_INDEX, x -> x.leftIn(-1, -1));
    }

    // ---- constants

    @Sentence(of = "Exceptions", says = {"`NONE = -1`: There is none.",
        "`OPEN = 0, TRYING = 1, GRACE = 2, OVERDUE = 3, PROMISED = 4, WRITTEN_OFF = 5, PAID = 6`: States of bills.",
        "`SUCCESS = 0, NO_MONEY = 1, EXPIRED = 2, BLOCKED = 3, ERROR = 4`: Outcomes of charges; all but SUCCESS are "
            + "reasons.",
        "`CUT = 0, BASIC = 1, FULL = 2`: Services."})
    static void constants() {
        int[] constants = {NONE, OPEN, TRYING, GRACE, OVERDUE, PROMISED, WRITTEN_OFF, PAID,
            SUCCESS, NO_MONEY, EXPIRED, BLOCKED, ERROR, CUT, BASIC, FULL};
        int[] due = {-1, 0, 1, 2, 3, 4, 5, 6, 0, 1, 2, 3, 4, 0, 1, 2};
        for (int i = 0; i < due.length; i++) {
            CHECKS.due(due[i], constants[i]);
        }
    }
}
