/** All that the calls which only ask can tell of an engine, as one text. */
final class Snapshot {
    private Snapshot() {
    }

    static String of(CollectionsEngine engine) {
        StringBuilder text = new StringBuilder();
        int today = engine.today();
        put(text, today, engine.bills(), engine.billed(), engine.paid(), engine.writtenOff(), engine.broughtBack());
        for (int day = Math.max(0, today - 70); day <= today + 70; day++) {
            text.append(engine.isCharging(day) ? 'c' : '.');
        }
        for (int account = 0; account < 8; account++) {
            put(text, engine.service(account));
            for (int state = CollectionsEngine.OPEN; state <= CollectionsEngine.PAID; state++) {
                put(text, engine.leftIn(account, state));
            }
        }
        for (int bill = 0; bill < engine.bills(); bill++) {
            putBill(text, engine, bill);
        }
        put(text, engine.events());
        for (int back = 0; back < Math.min(400, engine.events()); back++) {
            put(text, engine.event(back));
        }
        return text.toString();
    }

    private static void putBill(StringBuilder text, CollectionsEngine engine, int bill) {
        put(text, engine.stateOf(bill), engine.left(bill), engine.tries(bill), engine.waitsFor(bill),
            engine.broken(bill), engine.stateAt(bill, engine.today()));
        for (int reason = CollectionsEngine.NO_MONEY; reason <= CollectionsEngine.ERROR; reason++) {
            put(text, engine.failures(bill, reason));
        }
    }

    private static void put(StringBuilder text, int... numbers) {
        for (int number : numbers) {
            text.append(number).append(' ');
        }
    }
}
