import java.io.ByteArrayOutputStream;
import java.io.IOException;
import java.io.PrintStream;
import java.lang.reflect.Method;
import java.lang.reflect.Modifier;
import java.nio.charset.StandardCharsets;
import java.nio.file.DirectoryStream;
import java.nio.file.Files;
import java.nio.file.Path;
import java.util.regex.Matcher;
import java.util.regex.Pattern;

/** README.md says how to use the class and how to run its tests: what it shows must be so. */
public final class ReadmeTest {
    private static final Checks CHECK = new Checks();
    private static final Pattern ROW_OF_TEXT = Pattern.compile("(?m)^\\| ([0-3]) \\| [^|]* \\| (.*) \\|$");
    private static final Pattern MARKED = Pattern.compile("`([^`\n]+)`");

    public static void main(String[] args) throws IOException {
        String source = args.length > 0 ? args[0] : "src/main/java/WornWigs.java";
        Path root = Path.of(source).toAbsolutePath().getParent().getParent().getParent().getParent();
        Path tests = root.resolve("src/test/java");
        String readme = Files.readString(root.resolve("README.md"));
        showsTheExample(readme, Files.readString(tests.resolve("Example.java")));
        namesEachCall(readme);
        namesEachTest(readme, tests);
        itsLinesCanBeTold(readme);
        CHECK.end();
    }

    private static void showsTheExample(String readme, String example) {
        CHECK.due("Example.java stands in README.md", true, readme.contains("```java\n" + example + "```"));
        CHECK.due("what it prints stands there", true, readme.contains("```text\n" + printedByExample() + "```"));
    }

    private static String printedByExample() {
        PrintStream out = System.out;
        ByteArrayOutputStream printed = new ByteArrayOutputStream();
        System.setOut(new PrintStream(printed, true, StandardCharsets.ISO_8859_1));
        Example.main(new String[0]);
        System.setOut(out);
        return printed.toString(StandardCharsets.ISO_8859_1).replace(System.lineSeparator(), "\n");
    }

    private static void namesEachCall(String readme) {
        for (Method m : WornWigs.class.getDeclaredMethods()) {
            if (Modifier.isPublic(m.getModifiers())) {
                CHECK.due(m.getName() + " is named", true, readme.contains("`" + m.getName() + "`"));
            }
        }
    }

    private static void namesEachTest(String readme, Path tests) throws IOException {
        try (DirectoryStream<Path> files = Files.newDirectoryStream(tests, "*Test.java")) {
            for (Path file : files) {
                String name = file.getFileName().toString().replace(".java", "");
                CHECK.due(name + " is named", true, readme.contains("`" + name + "`"));
            }
        }
    }

    private static void itsLinesCanBeTold(String readme) {
        WornWigs x = Checks.bench(2, 2, 1);
        int texts = 0;
        Matcher row = ROW_OF_TEXT.matcher(readme);
        while (row.find()) {
            Matcher line = MARKED.matcher(row.group(2));
            while (line.find()) {
                CHECK.dueText(x, Integer.parseInt(row.group(1)), line.group(1), 1);
            }
            texts++;
        }
        CHECK.due("texts that are shown", 4, texts);
    }
}
