import java.io.IOException;
import java.lang.reflect.Field;
import java.lang.reflect.InvocationTargetException;
import java.lang.reflect.Method;
import java.lang.reflect.Modifier;
import java.nio.file.Files;
import java.nio.file.Path;
import java.util.ArrayList;
import java.util.Arrays;
import java.util.List;
import java.util.regex.Matcher;
import java.util.regex.Pattern;

/** The rules of LANGUAGE.md that a look at the program's text can tell, and that no call throws by itself. */
public final class LanguageTest {
    private static final String[] RULED_OUT = {
        "^\\s*import\\b", "^\\s*package\\b", "->", "::", "\\b\\w+Exact\\(", "\\b(try|catch|finally)\\b",
        "\\bsynchronized\\b", "\\bassert\\b", "\\bSystem\\.(?!arraycopy)", "\\bvar\\b", "\\bObject\\b",
        "\\bvolatile\\b", "\\b(equals|hashCode|toString)\\(", "\\bwhile\\s*\\(\\s*true", "for\\s*\\(\\s*;\\s*;",
        "\\bMath\\.(?!(max|min|abs|floorMod|floorDiv)\\()", "\\bInteger\\.(?!(bitCount|compare|max|min)\\()",
        "^\\s*static\\s*\\{", "\\b(float|double)\\b",
    };
    private static final Pattern THROW = Pattern.compile("\\bthrow\\b(.*)");
    private static final Pattern WRITTEN_THROW = Pattern.compile(
        " new (IllegalState|IllegalArgument|IndexOutOfBounds)Exception\\((\"[^\"]*\")?\\);");

    private static final List<Class<?>> CONSTANT_TYPES = List.of(int.class, long.class, boolean.class, char.class,
        String.class, int[].class, long[].class, char[].class, byte[].class);
    private static final int[] ARGUMENTS = {Integer.MIN_VALUE, -1, 0, 1, 4, 6, 7, 29, 30, 60, 399, 400, 2400060,
        Integer.MAX_VALUE};

    public static void main(String[] args) throws IOException, IllegalAccessException {
        Checks checks = new Checks();
        String program = Files.readString(Path.of("src/main/java/CollectionsEngine.java"));
        for (int i = 0; i < program.length(); i++) {
            char sign = program.charAt(i);
            checks.due(true, sign == '\n' || sign >= ' ' && sign < 127);
        }
        String code = program.replaceAll("(?s)/\\*.*?\\*/", "").replaceAll("//[^\n]*", "");
        for (String rule : RULED_OUT) {
            checks.begin(rule);
            checks.due(false, Pattern.compile(rule, Pattern.MULTILINE).matcher(code).find());
        }
        Matcher thrown = THROW.matcher(code);
        while (thrown.find()) {
            checks.begin(thrown.group());
            checks.due(true, WRITTEN_THROW.matcher(thrown.group(1)).matches());
        }
        methodsAreShort(checks, code);
        classesAreSmall(checks);
        noCallThrowsByItself(checks);
        checks.end();
    }

    private static void methodsAreShort(Checks checks, String code) {
        Matcher method = Pattern.compile("(?m)^( +)[^\\n]*\\) (throws [^{]*)?\\{\\n(?s:.*?)^\\1\\}").matcher(code);
        while (method.find()) {
            String text = method.group();
            checks.begin(text.substring(0, text.indexOf('\n')));
            checks.due(true, text.lines().count() <= 60);
        }
    }

    private static void classesAreSmall(Checks checks) {
        List<Class<?>> classes = new ArrayList<>(List.of(CollectionsEngine.class.getDeclaredClasses()));
        classes.add(CollectionsEngine.class);
        checks.begin("classes");
        checks.due(true, classes.size() <= 12);
        for (Class<?> each : classes) {
            int kept = 0;
            for (Field field : each.getDeclaredFields()) {
                checks.begin(each.getName() + "." + field.getName());
                int modifiers = field.getModifiers();
                boolean isConstant = Modifier.isFinal(modifiers) && CONSTANT_TYPES.contains(field.getType());
                checks.due(true, !Modifier.isStatic(modifiers) || isConstant);
                kept += Modifier.isStatic(modifiers) ? 0 : 1;
            }
            checks.begin(each.getName());
            checks.due(true, kept <= 20);
            for (Method method : each.getDeclaredMethods()) {
                checks.begin(each.getName() + "." + method.getName());
                checks.due(true, method.getParameterCount() <= 7);
            }
        }
    }

    /** Rule 7 holds behind the 512th call too, where the answers are free: here on day 2400000, and from there on. */
    private static void noCallThrowsByItself(Checks checks) throws IllegalAccessException {
        CollectionsEngine late = Runs.made(29);
        for (int call = 0; call < 40000; call++) {
            late.pass(60);
        }
        for (int round = 0; round < 3; round++) {
            for (Method method : CollectionsEngine.class.getDeclaredMethods()) {
                if (Modifier.isPublic(method.getModifiers())) {
                    callWithAll(checks, late, method);
                }
            }
        }
    }

    private static void callWithAll(Checks checks, CollectionsEngine engine, Method method)
            throws IllegalAccessException {
        checks.begin(method.getName());
        int parameters = method.getParameterCount();
        boolean hasFlag = parameters == 2 && method.getParameterTypes()[1] == boolean.class;
        for (int first : ARGUMENTS) {
            for (int second : ARGUMENTS) {
                Object[] arguments = {first, hasFlag ? (Object) (second > 0) : (Object) second};
                try {
                    method.invoke(engine, Arrays.copyOf(arguments, parameters));
                    checks.due(true, true);
                } catch (InvocationTargetException thrown) {
                    Class<?> thrownClass = thrown.getCause().getClass();
                    checks.due(true, List.of(Checks.NO_INDEX, Checks.NO_ARGUMENT, Checks.NO_STATE)
                        .contains(thrownClass));
                }
            }
        }
    }
}
