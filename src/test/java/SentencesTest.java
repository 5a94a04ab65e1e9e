import java.io.IOException;
import java.lang.reflect.Method;
import java.nio.file.Files;
import java.nio.file.Path;
import java.util.ArrayList;
import java.util.LinkedHashMap;
import java.util.List;
import java.util.Map;

/** Each sentence of the document's terms and promises has a test that names it, and no test names another. */
public final class SentencesTest {
    private static final List<Class<?>> TESTS =
        List.of(TermsTest.class, RulesTest.class, BillsTest.class, AnswersTest.class);
    private static final List<String> TERMS =
        List.of("Days", "Bills", "A day passes", "Service", "Events", "Exceptions");
    private static final int PROMISES = 29;
    /** Lines that name no case: which calls stand together in the face, which FaceTest looks at. */
    private static final String NO_CASE = "Ahead of the calls ";
    private static final Checks CHECKS = new Checks();

    public static void main(String[] args) throws IOException {
        Map<String, String> parts = partsOfTheDocument();
        Map<String, StringBuilder> rest = new LinkedHashMap<>();
        parts.forEach((heading, text) -> rest.put(heading, new StringBuilder(text)));
        for (Class<?> tests : TESTS) {
            for (Method test : Checks.testsOf(tests)) {
                CHECKS.begin(tests.getName() + ", " + test.getName());
                for (Sentence named : test.getAnnotationsByType(Sentence.class)) {
                    takeOut(named, parts, rest);
                }
            }
        }
        List<String> headings = new ArrayList<>(TERMS);
        for (int promise : Checks.range(1, PROMISES)) {
            headings.add("Promise " + promise);
        }
        for (String heading : headings) {
            CHECKS.begin(heading + " has words without a test");
            CHECKS.due("", rest.getOrDefault(heading, new StringBuilder("no such heading")).toString()
                .replaceAll("[^A-Za-z0-9]+", " ").trim());
        }
        CHECKS.end();
    }

    private static void takeOut(Sentence named, Map<String, String> parts, Map<String, StringBuilder> rest) {
        for (String words : named.says()) {
            int from = parts.getOrDefault(named.of(), "").indexOf(words);
            CHECKS.due(words, from < 0 ? "not in " + named.of() : words);
            if (from >= 0) {
                rest.get(named.of()).replace(from, from + words.length(), " ".repeat(words.length()));
            }
        }
    }

    /** The texts by their headings, up to a colon; without the faces of the methods, which FaceTest looks at. */
    private static Map<String, String> partsOfTheDocument() throws IOException {
        Map<String, String> parts = new LinkedHashMap<>();
        String heading = "";
        for (String line : Files.readAllLines(Path.of("../shared/DOC.md"))) {
            if (line.startsWith("#")) {
                heading = line.replaceAll("^#+ ", "").replaceAll(":.*", "");
            } else if (!line.startsWith(NO_CASE)) {
                String words = line.replaceAll("^`[^`]*\\([^`]*`: |^The constants: ", "");
                parts.merge(heading, words, (one, other) -> one + "\n" + other);
            }
        }
        return parts;
    }
}
