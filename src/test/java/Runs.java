/** Beginnings that many tests share. */
final class Runs implements Names {
    private Runs() {
    }

    /** Each day is a charging day, so that a next try is where the gap leads. */
    static CollectionsEngine everyDay() {
        CollectionsEngine engine = new CollectionsEngine();
        engine.setWeekday(5, true);
        engine.setWeekday(6, true);
        return engine;
    }

    /** One weekday alone is for charging. */
    static CollectionsEngine oneWeekday(int kept) {
        CollectionsEngine engine = new CollectionsEngine();
        engine.setWeekday(kept, true);
        for (int weekday = 0; weekday < 7; weekday++) {
            engine.setWeekday(weekday, weekday == kept);
        }
        return engine;
    }

    /** Day 0, with so many OPEN bills of account 0, of 100 each. */
    static CollectionsEngine made(int bills) {
        CollectionsEngine engine = new CollectionsEngine();
        for (int i = 0; i < bills; i++) {
            engine.bill(0, 100);
        }
        return engine;
    }

    /** Day 1, a Tuesday, with so many bills of account 0, of 100 each, that are TRYING. */
    static CollectionsEngine tried(int bills) {
        CollectionsEngine engine = made(bills);
        engine.pass(1);
        return engine;
    }

    /** Day 1, with a bill of account 0, of 100, in GRACE; its end is day 1 and the grace time. */
    static CollectionsEngine inGrace(int grace, int overdue) {
        CollectionsEngine engine = tried(1);
        engine.setTimes(grace, overdue);
        engine.outcome(0, BLOCKED);
        return engine;
    }

    /** Day 2, with a bill of account 0, of 100, that is OVERDUE; its end is day 2 and the overdue time. */
    static CollectionsEngine overdue(int overdue) {
        CollectionsEngine engine = inGrace(1, overdue);
        engine.pass(1);
        return engine;
    }

    /**
     * Day 3, with a bill in each state, its number being the state and its amount 100 and the state. Account 0 has
     * the even ones, account 1 the odd ones. The end of GRACE is day 61, of OVERDUE 93, of PROMISED, which was OPEN,
     * 31; the next try of OPEN is day 8. The grace time is 10 by then, the overdue time 90.
     */
    static CollectionsEngine states() {
        CollectionsEngine engine = new CollectionsEngine();
        for (int bill = 0; bill < 7; bill++) {
            engine.bill(bill % 2, 100 + bill);
        }
        intoStates(engine);
        return engine;
    }

    /** Brings the seven bills of a day 0, a Monday, into the states of {@link #states} and its day 3. */
    static void intoStates(CollectionsEngine engine) {
        engine.pass(1);
        engine.setTimes(1, 1);
        engine.outcome(WRITTEN_OFF, BLOCKED);
        engine.setTimes(2, 1);
        engine.outcome(OVERDUE, BLOCKED);
        engine.setTimes(60, 1);
        engine.outcome(GRACE, BLOCKED);
        engine.outcome(PAID, SUCCESS);
        engine.outcome(PROMISED, NO_MONEY);
        engine.promise(PROMISED, 30);
        engine.outcome(OPEN, EXPIRED);
        engine.pass(1);
        engine.setTimes(10, 90);
        engine.pass(1);
    }

    /**
     * Day 60, with thirty bills of 1, bill % 8 being the account, all written off, the first of which were paid then.
     * Each bill has 13 events up to there: OPEN on day 0, TRYING and OPEN on 1, 2, 3 and 4, TRYING and GRACE on 7,
     * OVERDUE on 17, WRITTEN_OFF on 47; each payment is one more.
     */
    static CollectionsEngine writtenOff(int paid) {
        CollectionsEngine engine = new CollectionsEngine();
        for (int bill = 0; bill < 30; bill++) {
            engine.bill(bill % 8, 1);
        }
        engine.pass(60);
        for (int bill = 0; bill < paid; bill++) {
            engine.pay(bill, 1);
        }
        return engine;
    }

    /** Lets days pass up to a day, as many in a call as a call takes. */
    static CollectionsEngine upTo(CollectionsEngine engine, int day) {
        for (int today = engine.today(); today < day; today = engine.today()) {
            engine.pass(Math.min(60, day - today));
        }
        return engine;
    }
}
