import java.util.Objects;

/** Counts the answers that are not as due, and tells them. */
final class Checks {
    interface Call {
        Object make();
    }

    static final Class<? extends RuntimeException> NO_INDEX = IndexOutOfBoundsException.class;
    static final Class<? extends RuntimeException> NO_ARGUMENT = IllegalArgumentException.class;
    static final Class<? extends RuntimeException> NO_STATE = IllegalStateException.class;

    private int checked = 0;
    private int wrong = 0;
    private String part = "";

    void begin(String name) {
        part = name;
    }

    void due(Object want, Object got) {
        checked++;
        if (!Objects.equals(want, got)) {
            tell("due is " + want + ", answered was " + got);
        }
    }

    /** The class must be the very one: an exception of the Java machine is one of a class below it. */
    void refused(CollectionsEngine engine, Class<? extends RuntimeException> want, Call call) {
        String before = Snapshot.of(engine);
        due(want.getName(), answer(call));
        if (!before.equals(Snapshot.of(engine))) {
            tell("a refused call changed something");
        }
    }

    /** What the call answers, or the name of the exception that it throws. */
    static Object answer(Call call) {
        try {
            return call.make();
        } catch (RuntimeException thrown) {
            return thrown.getClass().getName();
        }
    }

    void tell(String fault) {
        wrong++;
        StackTraceElement[] stack = new Throwable().getStackTrace();
        int line = 0;
        for (StackTraceElement step : stack) {
            if (!step.getClassName().equals("Checks")) {
                line = step.getLineNumber();
                break;
            }
        }
        System.out.println(part + ", line " + line + ": " + fault);
    }

    void end() {
        System.out.println(checked + " answers checked, " + wrong + " faults");
        if (wrong != 0 || checked == 0) {
            System.exit(1);
        }
    }
}
