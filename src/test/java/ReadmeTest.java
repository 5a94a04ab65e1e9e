import java.io.File;
import java.io.IOException;
import java.lang.reflect.Method;
import java.lang.reflect.Modifier;
import java.nio.file.Files;
import java.nio.file.Path;
import java.util.Comparator;
import java.util.List;
import java.util.regex.Matcher;
import java.util.regex.Pattern;
import java.util.stream.Stream;

/** README.md: its example compiles and answers as it says, by its own commands; it names each call and each test. */
public final class ReadmeTest {
    private static final Path CLASS_FILE = Path.of("src/main/java/CollectionsEngine.java");
    private static final Checks CHECKS = new Checks();

    public static void main(String[] args) throws IOException, InterruptedException {
        String readme = Files.readString(Path.of("README.md"));
        CHECKS.begin("the example");
        CHECKS.due(firstBlock(readme, "text"), printed(firstBlock(readme, "java"), firstBlock(readme, "sh")));
        CHECKS.begin("the tests");
        CHECKS.due(true, readme.contains("```sh\n.ci/run\n```"));
        CHECKS.due(true, Files.isExecutable(Path.of(".ci/run")));
        namesEachCall(readme);
        namesEachTest(readme);
        CHECKS.end();
    }

    private static String firstBlock(String readme, String kind) {
        Matcher block = Pattern.compile("(?s)```" + kind + "\n(.*?)```\n").matcher(readme);
        return block.find() ? block.group(1) : "no block of " + kind;
    }

    /** In a folder that has nothing of the project but the class, at its place, and the example beside the page. */
    private static String printed(String example, String commands) throws IOException, InterruptedException {
        Path folder = Files.createTempDirectory("readme");
        try {
            Path copy = folder.resolve(CLASS_FILE);
            Files.createDirectories(copy.getParent());
            Files.copy(CLASS_FILE, copy);
            Files.writeString(folder.resolve("Example.java"), example);
            File output = folder.resolve("printed").toFile();
            Process run = new ProcessBuilder("sh", "-e", "-c", commands).directory(folder.toFile())
                .redirectError(ProcessBuilder.Redirect.INHERIT).redirectOutput(output).start();
            int exitCode = run.waitFor();
            String text = Files.readString(output.toPath());
            return exitCode == 0 ? text : text + "exit code " + exitCode;
        } finally {
            remove(folder);
        }
    }

    private static void remove(Path folder) throws IOException {
        try (Stream<Path> found = Files.walk(folder)) {
            for (Path each : found.sorted(Comparator.reverseOrder()).toList()) {
                Files.delete(each);
            }
        }
    }

    private static void namesEachCall(String readme) {
        for (Method method : CollectionsEngine.class.getDeclaredMethods()) {
            if (Modifier.isPublic(method.getModifiers())) {
                CHECKS.begin(method.getName());
                CHECKS.due(true, readme.contains("`" + method.getName() + "`"));
            }
        }
    }

    private static void namesEachTest(String readme) throws IOException {
        try (Stream<Path> files = Files.list(Path.of("src/test/java"))) {
            List<String> names = files.map(file -> file.getFileName().toString()).sorted().toList();
            for (String name : names) {
                if (name.endsWith("Test.java")) {
                    CHECKS.begin(name);
                    CHECKS.due(true, readme.contains("| `" + name.replace(".java", "") + "` |"));
                }
            }
        }
    }
}
