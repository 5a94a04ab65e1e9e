import java.util.ArrayList;
import java.util.List;

/**
 * All that can be seen of an engine, as one text: what the calls tell that only ask, at once and behind some ways of
 * going on, which show what is kept but told by no call. It asks few calls of each object, as an object has 512 alone.
 */
final class Snapshot implements Names {
    private static final int CALLS_OF_AN_OBJECT = 200;
    private static final int HOLIDAYS_AHEAD = 60;

    /** A way of going on; what it answers belongs to the text. */
    private interface Way {
        String go(CollectionsEngine engine);
    }

    private static final List<Way> WAYS = List.of(
        x -> "", Snapshot::changeRules, Snapshot::addHolidays, Snapshot::promiseAll, Snapshot::payAll,
        x -> failAgain(x, NO_MONEY), x -> failAgain(x, EXPIRED), x -> failAgain(x, BLOCKED), x -> failAgain(x, ERROR),
        Snapshot::passLong);

    private Snapshot() {
    }

    static String of(Checks.Maker maker) {
        StringBuilder text = new StringBuilder();
        for (Way way : WAYS) {
            CollectionsEngine first = maker.make();
            text.append(way.go(first));
            putAnswers(text, maker, way, questionsTo(first));
        }
        return text.toString();
    }

    private static void putAnswers(StringBuilder text, Checks.Maker maker, Way way, List<Checks.Call> questions) {
        CollectionsEngine asked = null;
        for (int i = 0; i < questions.size(); i++) {
            if (i % CALLS_OF_AN_OBJECT == 0) {
                asked = maker.make();
                way.go(asked);
            }
            text.append(Checks.answer(asked, questions.get(i))).append(' ');
        }
        text.append('\n');
    }

    private static List<Checks.Call> questionsTo(CollectionsEngine engine) {
        int today = engine.today();
        List<Checks.Call> found = new ArrayList<>(List.of(CollectionsEngine::today, CollectionsEngine::bills,
            CollectionsEngine::billed, CollectionsEngine::paid, CollectionsEngine::writtenOff,
            CollectionsEngine::broughtBack, CollectionsEngine::events));
        for (int day : Checks.range(Math.max(0, today - 14), today + 70)) {
            found.add(x -> x.isCharging(day));
        }
        for (int account : Checks.range(0, 7)) {
            found.add(x -> x.service(account));
            for (int state : Checks.range(OPEN, PAID)) {
                found.add(x -> x.leftIn(account, state));
            }
        }
        for (int bill : Checks.range(0, engine.bills() - 1)) {
            addQuestionsOfBill(found, bill, today);
        }
        for (int back : Checks.range(0, Math.min(400, engine.events()) - 1)) {
            found.add(x -> x.event(back));
        }
        return found;
    }

    private static void addQuestionsOfBill(List<Checks.Call> found, int bill, int today) {
        found.addAll(List.of(x -> x.stateOf(bill), x -> x.left(bill), x -> x.tries(bill), x -> x.waitsFor(bill),
            x -> x.broken(bill), x -> x.stateAt(bill, 0), x -> x.stateAt(bill, today)));
        for (int reason : Checks.range(NO_MONEY, ERROR)) {
            found.add(x -> x.failures(bill, reason));
        }
    }

    private static String changeRules(CollectionsEngine engine) {
        StringBuilder text = new StringBuilder();
        for (int reason : Checks.range(NO_MONEY, ERROR)) {
            put(text, engine, x -> x.clearGaps(reason));
        }
        put(text, engine, x -> x.setTimes(7, 8));
        for (int weekday : Checks.range(0, 6)) {
            put(text, engine, x -> x.setWeekday(weekday, true));
        }
        return text.toString();
    }

    private static String addHolidays(CollectionsEngine engine) {
        StringBuilder text = new StringBuilder();
        int today = engine.today();
        for (int day : Checks.range(today + 1, today + HOLIDAYS_AHEAD)) {
            put(text, engine, x -> x.addHoliday(day));
        }
        return text.toString();
    }

    private static String promiseAll(CollectionsEngine engine) {
        StringBuilder text = new StringBuilder();
        for (int bill : Checks.range(0, engine.bills() - 1)) {
            put(text, engine, x -> x.promise(bill, 1));
        }
        put(text, engine, x -> x.pass(1));
        return text.toString();
    }

    private static String payAll(CollectionsEngine engine) {
        StringBuilder text = new StringBuilder();
        for (int bill : Checks.range(0, engine.bills() - 1)) {
            put(text, engine, x -> x.pay(bill, 1));
        }
        return text.toString();
    }

    /** Shows the whole row of a reason, by a new bill or, where there can be none, by the last one. */
    private static String failAgain(CollectionsEngine engine, int reason) {
        StringBuilder text = new StringBuilder();
        put(text, engine, x -> x.bill(0, 1));
        int bill = engine.bills() - 1;
        for (int i = 0; i < 8; i++) {
            if (engine.stateOf(bill) == OPEN) {
                put(text, engine, x -> x.pass(Math.min(60, x.waitsFor(bill) - x.today())));
            }
            put(text, engine, x -> x.outcome(bill, reason));
            put(text, engine, x -> x.waitsFor(bill));
        }
        return text.toString();
    }

    private static String passLong(CollectionsEngine engine) {
        StringBuilder text = new StringBuilder();
        put(text, engine, x -> x.bill(0, 1));
        for (int i = 0; i < 4; i++) {
            put(text, engine, x -> x.pass(60));
        }
        return text.toString();
    }

    private static void put(StringBuilder text, CollectionsEngine engine, Checks.Call call) {
        text.append(Checks.answer(engine, call)).append(' ');
    }
}
