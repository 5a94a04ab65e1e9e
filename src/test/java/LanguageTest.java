import java.io.IOException;
import java.nio.file.Files;
import java.nio.file.Path;
import java.util.regex.Matcher;
import java.util.regex.Pattern;

/** The rules of LANGUAGE.md that a look at the program's text can tell. */
public final class LanguageTest {
    private static final String[] RULED_OUT = {
        "^\\s*import\\b", "^\\s*package\\b", "->", "::", "\\b\\w+Exact\\(", "\\b(try|catch|finally)\\b",
        "\\bsynchronized\\b", "\\bassert\\b", "\\bSystem\\.(?!arraycopy)", "\\bvar\\b", "\\bObject\\b", "\\bvolatile\\b",
        "\\b(equals|hashCode|toString)\\(", "\\bwhile\\s*\\(\\s*true", "for\\s*\\(\\s*;\\s*;",
        "\\bMath\\.(?!(max|min|abs|floorMod|floorDiv)\\()", "\\bInteger\\.(?!(bitCount|compare|max|min)\\()",
        "^\\s*static\\s*\\{", "\\b(float|double)\\b",
    };
    private static final Pattern THROW = Pattern.compile("\\bthrow\\b(.*)");
    private static final Pattern WRITTEN_THROW = Pattern.compile(
        " new (IllegalState|IllegalArgument|IndexOutOfBounds)Exception\\((\"[^\"]*\")?\\);");

    public static void main(String[] args) throws IOException {
        Checks checks = new Checks();
        String program = Files.readString(Path.of("src/main/java/CollectionsEngine.java"));
        for (int i = 0; i < program.length(); i++) {
            char sign = program.charAt(i);
            checks.due(true, sign == '\n' || sign >= ' ' && sign < 127);
        }
        String code = program.replaceAll("(?s)/\\*.*?\\*/", "").replaceAll("//[^\n]*", "");
        for (String rule : RULED_OUT) {
            checks.begin(rule);
            checks.due(false, Pattern.compile(rule, Pattern.MULTILINE).matcher(code).find());
        }
        Matcher thrown = THROW.matcher(code);
        while (thrown.find()) {
            checks.begin(thrown.group());
            checks.due(true, WRITTEN_THROW.matcher(thrown.group(1)).matches());
        }
        methodsAreShort(checks, code);
        checks.end();
    }

    private static void methodsAreShort(Checks checks, String code) {
        Matcher method = Pattern.compile("(?m)^( +)[^\\n]*\\) (throws [^{]*)?\\{\\n(?s:.*?)^\\1\\}").matcher(code);
        while (method.find()) {
            String text = method.group();
            checks.begin(text.substring(0, text.indexOf('\n')));
            checks.due(true, text.lines().count() <= 60);
        }
    }
}
