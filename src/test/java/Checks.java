import java.lang.reflect.InvocationTargetException;
import java.lang.reflect.Method;
import java.util.Arrays;
import java.util.Comparator;
import java.util.List;
import java.util.Objects;
import java.util.stream.IntStream;

/** Counts the answers that are not as due, and tells them. */
final class Checks implements Names {
    /** Makes an engine and brings it to where a test begins; each time anew, as an object has 512 calls alone. */
    interface Maker {
        CollectionsEngine make();
    }

    interface Call {
        Object on(CollectionsEngine engine);
    }

    interface BillCall {
        Object on(CollectionsEngine engine, int bill);
    }

    static final Class<? extends RuntimeException> NO_INDEX = IndexOutOfBoundsException.class;
    static final Class<? extends RuntimeException> NO_ARGUMENT = IllegalArgumentException.class;
    static final Class<? extends RuntimeException> NO_STATE = IllegalStateException.class;

    private int checked = 0;
    private int wrong = 0;
    private String part = "";

    void begin(String name) {
        part = name;
    }

    void due(Object want, Object got) {
        checked++;
        if (!Objects.equals(want, got)) {
            tell("due is " + want + ", answered was " + got);
        }
    }

    void answers(Object want, Maker maker, Call call) {
        due(want, answer(maker.make(), call));
    }

    /** The class must be the very one: an exception of the Java machine is one of a class below it. */
    void refused(Maker maker, Class<? extends RuntimeException> want, Call call) {
        due(want.getName(), answer(maker.make(), call));
        String changed = Snapshot.of(() -> {
            CollectionsEngine engine = maker.make();
            answer(engine, call);
            return engine;
        });
        due(Snapshot.of(maker), changed);
    }

    /** The call takes the first and the last bill that there are, and none beside them. */
    void takesEachBill(BillCall call) {
        for (int bills : new int[] {1, 7, 30}) {
            Maker maker = () -> Runs.tried(bills);
            for (int bill : new int[] {0, bills - 1}) {
                Object answer = answer(maker.make(), x -> call.on(x, bill));
                due(false, NO_INDEX.getName().equals(answer));
            }
            for (int bill : new int[] {-1, bills, bills + 1, MIN, MAX}) {
                refused(maker, NO_INDEX, x -> call.on(x, bill));
            }
        }
        refused(CollectionsEngine::new, NO_INDEX, x -> call.on(x, 0));
    }

    /** What the call answers, or the name of the exception that it throws. */
    static Object answer(CollectionsEngine engine, Call call) {
        try {
            return call.on(engine);
        } catch (RuntimeException thrown) {
            return thrown.getClass().getName();
        }
    }

    static int[] range(int least, int most) {
        return IntStream.rangeClosed(least, most).toArray();
    }

    /** Runs the tests of a class, and ends the program with exit code 1 if one of them found a fault. */
    void run(Class<?> tests) {
        for (Method test : testsOf(tests)) {
            Sentence first = test.getAnnotationsByType(Sentence.class)[0];
            begin(first.of() + ", " + test.getName());
            try {
                test.invoke(null);
            } catch (InvocationTargetException thrown) {
                tell("the test ends with " + thrown.getCause());
            } catch (IllegalAccessException hidden) {
                tell("the test is hidden");
            }
        }
        end();
    }

    static List<Method> testsOf(Class<?> tests) {
        return Arrays.stream(tests.getDeclaredMethods())
            .filter(method -> method.getAnnotationsByType(Sentence.class).length > 0)
            .sorted(Comparator.comparing(Method::getName))
            .toList();
    }

    void tell(String fault) {
        wrong++;
        int line = 0;
        for (StackTraceElement step : new Throwable().getStackTrace()) {
            if (!step.getClassName().equals("Checks")) {
                line = step.getLineNumber();
                break;
            }
        }
        System.out.println(part + ", line " + line + ": " + fault);
    }

    void end() {
        System.out.println(checked + " answers checked, " + wrong + " faults");
        if (wrong != 0 || checked == 0) {
            System.exit(1);
        }
    }
}
