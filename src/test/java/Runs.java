/** Beginnings that many tests share. */
final class Runs {
    private Runs() {
    }

    /** An engine on day 1, a Tuesday, with so many bills of account 0, of 100 each, that are TRYING. */
    static CollectionsEngine tried(int bills) {
        CollectionsEngine engine = new CollectionsEngine();
        for (int i = 0; i < bills; i++) {
            engine.bill(0, 100);
        }
        engine.pass(1);
        return engine;
    }

    /**
     * An engine on day 3 with a bill in each state, its number being the state and its amount 100 and the state.
     * Account 0 has the even ones, account 1 the odd ones. The end of GRACE is day 61, of OVERDUE 93, of PROMISED,
     * which was OPEN, 31; the next try of OPEN is day 8.
     */
    static CollectionsEngine states() {
        CollectionsEngine engine = new CollectionsEngine();
        for (int bill = 0; bill < 7; bill++) {
            engine.bill(bill % 2, 100 + bill);
        }
        engine.pass(1);
        engine.setTimes(1, 1);
        engine.outcome(CollectionsEngine.WRITTEN_OFF, CollectionsEngine.BLOCKED);
        engine.setTimes(2, 1);
        engine.outcome(CollectionsEngine.OVERDUE, CollectionsEngine.BLOCKED);
        engine.setTimes(60, 1);
        engine.outcome(CollectionsEngine.GRACE, CollectionsEngine.BLOCKED);
        engine.outcome(CollectionsEngine.PAID, CollectionsEngine.SUCCESS);
        engine.outcome(CollectionsEngine.PROMISED, CollectionsEngine.NO_MONEY);
        engine.promise(CollectionsEngine.PROMISED, 30);
        engine.outcome(CollectionsEngine.OPEN, CollectionsEngine.EXPIRED);
        engine.pass(1);
        engine.setTimes(10, 90);
        engine.pass(1);
        return engine;
    }
}
