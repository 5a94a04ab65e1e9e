import java.lang.reflect.Constructor;
import java.lang.reflect.Field;
import java.lang.reflect.Method;
import java.lang.reflect.Modifier;
import java.util.Set;
import java.util.TreeSet;

/** The class has the face of the document, and nothing beside it. */
public final class FaceTest {
    private static final String[] CONSTANTS = {
        "NONE=-1",
        "OPEN=0", "TRYING=1", "GRACE=2", "OVERDUE=3", "PROMISED=4", "WRITTEN_OFF=5", "PAID=6",
        "SUCCESS=0", "NO_MONEY=1", "EXPIRED=2", "BLOCKED=3", "ERROR=4",
        "CUT=0", "BASIC=1", "FULL=2",
    };
    private static final String[] METHODS = {
        "int setWeekday(int,boolean) IS", "boolean addHoliday(int) A", "int addGap(int,int) IAS",
        "int clearGaps(int) I", "int setTimes(int,int) A", "int bill(int,int) IAS", "int outcome(int,int) IAS",
        "int pay(int,int) IAS", "int promise(int,int) IAS", "int pass(int) A", "int today() ",
        "boolean isCharging(int) A", "int bills() ", "int stateOf(int) I", "int left(int) I", "int tries(int) I",
        "int failures(int,int) I", "int waitsFor(int) I", "int broken(int) I", "int service(int) I",
        "int billed() ", "int paid() ", "int writtenOff() ", "int broughtBack() ", "int leftIn(int,int) IA",
        "int events() ", "int event(int) I", "int stateAt(int,int) IA",
    };
    private static final Class<?> FACE = CollectionsEngine.class;

    public static void main(String[] args) throws IllegalAccessException {
        Checks checks = new Checks();
        checks.begin("face");
        checks.due(Modifier.PUBLIC | Modifier.FINAL, FACE.getModifiers());
        checks.due(Set.of(METHODS), publicMethods());
        checks.due(Set.of(CONSTANTS), publicConstants(checks));
        checks.due(1, FACE.getDeclaredConstructors().length);
        for (Constructor<?> made : FACE.getDeclaredConstructors()) {
            checks.due("public CollectionsEngine()", made.toString());
        }
        for (Class<?> inner : FACE.getDeclaredClasses()) {
            int modifiers = inner.getModifiers();
            checks.due(true, Modifier.isStatic(modifiers) && !Modifier.isPublic(modifiers)
                && !Modifier.isProtected(modifiers));
        }
        hiddenMethodsHaveNamesOfTheirOwn(checks);
        checks.end();
    }

    private static Set<String> publicMethods() {
        Set<String> found = new TreeSet<>();
        for (Method method : FACE.getDeclaredMethods()) {
            if (!Modifier.isPrivate(method.getModifiers())) {
                found.add(signature(method));
            }
        }
        return found;
    }

    private static String signature(Method method) {
        StringBuilder text = new StringBuilder(method.getReturnType().getName());
        text.append(' ').append(method.getName()).append('(');
        String comma = "";
        for (Class<?> type : method.getParameterTypes()) {
            text.append(comma).append(type.getName());
            comma = ",";
        }
        text.append(") ");
        for (Class<?> type : method.getExceptionTypes()) {
            text.append(type == Checks.NO_INDEX ? "I" : type == Checks.NO_ARGUMENT ? "A" : "S");
        }
        return text.toString();
    }

    private static Set<String> publicConstants(Checks checks) throws IllegalAccessException {
        Set<String> found = new TreeSet<>();
        for (Field field : FACE.getDeclaredFields()) {
            int modifiers = field.getModifiers();
            checks.due(true, !Modifier.isStatic(modifiers) || Modifier.isFinal(modifiers));
            if (!Modifier.isPrivate(modifiers)) {
                checks.due("public static final int", Modifier.toString(modifiers) + " " + field.getType());
                found.add(field.getName() + "=" + field.getInt(null));
            }
        }
        return found;
    }

    private static void hiddenMethodsHaveNamesOfTheirOwn(Checks checks) {
        Set<String> open = new TreeSet<>();
        for (Method method : FACE.getDeclaredMethods()) {
            if (Modifier.isPublic(method.getModifiers())) {
                open.add(method.getName());
            }
        }
        for (Method method : FACE.getDeclaredMethods()) {
            checks.due(Modifier.isPublic(method.getModifiers()), open.contains(method.getName()));
        }
        for (Class<?> inner : FACE.getDeclaredClasses()) {
            for (Method method : inner.getDeclaredMethods()) {
                checks.due(false, open.contains(method.getName()));
            }
        }
    }
}
