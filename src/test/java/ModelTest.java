import java.lang.reflect.InvocationTargetException;
import java.lang.reflect.Method;
import java.util.ArrayList;
import java.util.Arrays;
import java.util.Comparator;
import java.util.List;
import java.util.Random;

/** Long runs of mixed calls, each answer compared with the model's; the seeds are fixed. */
public final class ModelTest {
    private static final int RUNS = 600;
    private static final int CALLS_OF_AN_OBJECT = 512;
    private static final int CALLS_BEFORE_ALL_IS_ASKED = 300;
    private static final int[] ODD = {Integer.MIN_VALUE, -2, -1, 0, 5, 7, 8, 30, 31, 61, 91, 10000, 1000001,
        Integer.MAX_VALUE};
    private static final List<String> ASKING = List.of("stateOf", "left", "tries", "failures", "waitsFor", "broken",
        "stateAt", "service", "leftIn", "event", "billed", "paid", "writtenOff", "broughtBack", "events", "bills",
        "today");
    private static final Checks CHECKS = new Checks();
    private static final List<Method> METHODS = methods();

    private record Step(Method method, Object[] arguments) { }

    private final Random random;
    private final int longestPass;
    private final CollectionsEngine engine = new CollectionsEngine();
    private final Model model = new Model();
    private final List<Step> steps = new ArrayList<>();

    private ModelTest(int seed) {
        random = new Random(seed);
        longestPass = new int[] {1, 2, 5, 60}[seed % 4];
    }

    public static void main(String[] args) throws IllegalAccessException {
        for (int seed = 0; seed < RUNS; seed++) {
            ModelTest run = new ModelTest(seed);
            for (int call = 0; call < CALLS_OF_AN_OBJECT; call++) {
                if (call == CALLS_BEFORE_ALL_IS_ASKED) {
                    CHECKS.begin("seed " + seed + " ahead of call " + call);
                    run.askAll();
                }
                CHECKS.begin("seed " + seed + " call " + call);
                run.callAny();
            }
        }
        CHECKS.end();
    }

    /** In an order of their own: the machine's is not always the same. */
    private static List<Method> methods() {
        List<Method> found = new ArrayList<>();
        for (Method method : CollectionsEngine.class.getDeclaredMethods()) {
            if (java.lang.reflect.Modifier.isPublic(method.getModifiers())) {
                found.add(method);
            }
        }
        found.sort(Comparator.comparing(Method::getName));
        return found;
    }

    private void callAny() throws IllegalAccessException {
        String name = switch (random.nextInt(12)) {
            case 0, 1 -> "pass";
            case 2 -> model.today() < 20 || random.nextInt(4) == 0 ? "bill" : "outcome";
            case 3, 4, 5 -> "outcome";
            case 6 -> "promise";
            case 7 -> random.nextInt(3) == 0 ? "pay" : "stateAt";
            case 8 -> random.nextInt(4) == 0 ? "addHoliday" : "event";
            default -> METHODS.get(random.nextInt(METHODS.size())).getName();
        };
        Method method = METHODS.stream().filter(each -> each.getName().equals(name)).findFirst().orElseThrow();
        Object[] arguments = new Object[method.getParameterCount()];
        for (int i = 0; i < arguments.length; i++) {
            boolean isFlag = method.getParameterTypes()[i] == boolean.class;
            arguments[i] = isFlag ? (Object) random.nextBoolean() : (Object) argument(name, i);
        }
        Step step = new Step(method, arguments);
        steps.add(step);
        compare(engine, step);
    }

    private int argument(String name, int place) {
        if (random.nextInt(40) == 0) {
            return ODD[random.nextInt(ODD.length)];
        }
        int today = model.today();
        if (place == 0) {
            return switch (name) {
                case "setWeekday" -> random.nextInt(7);
                case "addHoliday" -> today + random.nextInt(62);
                case "addGap", "clearGaps" -> 1 + random.nextInt(4);
                case "setTimes" -> 1 + random.nextInt(random.nextBoolean() ? 60 : 5);
                case "bill", "service", "leftIn" -> random.nextInt(8);
                case "outcome" -> tried();
                case "pass" -> 1 + random.nextInt(longestPass);
                case "isCharging" -> random.nextInt(today + 70);
                case "event" -> random.nextInt(450);
                default -> random.nextInt(model.bills() + 1);
            };
        }
        return switch (name) {
            case "addGap", "promise" -> 1 + random.nextInt(random.nextBoolean() ? 30 : 4);
            case "setTimes" -> 1 + random.nextInt(90);
            case "bill" -> 1 + random.nextInt(300);
            case "pay" -> 1 + random.nextInt(random.nextBoolean() ? 300 : 20);
            case "outcome" -> random.nextInt(5);
            case "failures" -> 1 + random.nextInt(4);
            case "leftIn" -> random.nextInt(7);
            default -> random.nextInt(today + 2);
        };
    }

    /** A bill that is TRYING, if there is one. */
    private int tried() {
        int bills = model.bills();
        int first = random.nextInt(bills + 1);
        for (int i = 0; i < bills; i++) {
            int bill = (first + i) % bills;
            if (model.stateOf(bill) == CollectionsEngine.TRYING) {
                return bill;
            }
        }
        return first;
    }

    /** Of objects that were brought to the same place, as there is more to ask than one of them has calls for. */
    private void askAll() throws IllegalAccessException {
        CollectionsEngine asked = engine;
        int callsLeft = 0;
        for (Step question : questions()) {
            if (callsLeft == 0) {
                asked = broughtHere();
                callsLeft = CALLS_OF_AN_OBJECT - steps.size();
            }
            callsLeft--;
            compare(asked, question);
        }
    }

    private CollectionsEngine broughtHere() throws IllegalAccessException {
        CollectionsEngine made = new CollectionsEngine();
        for (Step step : steps) {
            answer(step.method(), made, step.arguments());
        }
        return made;
    }

    private static List<Step> questions() {
        List<Step> found = new ArrayList<>();
        for (Method method : METHODS) {
            String name = method.getName();
            int parameters = method.getParameterCount();
            int firsts = !ASKING.contains(name) ? 0 : parameters == 0 ? 1 : name.equals("event") ? 402 : 31;
            int seconds = parameters < 2 ? 1 : name.equals("stateAt") ? 100 : 8;
            for (int first = 0; first < firsts; first++) {
                for (int second = 0; second < seconds; second++) {
                    found.add(new Step(method, Arrays.copyOf(new Object[] {first, second}, parameters)));
                }
            }
        }
        return found;
    }

    private void compare(CollectionsEngine asked, Step step) throws IllegalAccessException {
        Method method = step.method();
        String call = method.getName() + Arrays.toString(step.arguments()) + " ";
        try {
            Method due = Model.class.getMethod(method.getName(), method.getParameterTypes());
            CHECKS.due(call + answer(due, model, step.arguments()), call + answer(method, asked, step.arguments()));
        } catch (NoSuchMethodException missing) {
            CHECKS.tell("the model has no " + method.getName());
        }
    }

    private static Object answer(Method method, Object on, Object[] arguments) throws IllegalAccessException {
        try {
            return method.invoke(on, arguments);
        } catch (InvocationTargetException thrown) {
            return thrown.getCause().getClass().getName();
        }
    }
}
