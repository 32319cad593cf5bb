import java.io.IOException;
import java.nio.file.DirectoryStream;
import java.nio.file.Files;
import java.nio.file.Path;
import java.util.regex.Matcher;
import java.util.regex.Pattern;

/**
 * The comments of the Edges tests name a promise and quote its sentence. Each quotation must stand in the document, in
 * that promise or (", terms") ahead of the promises; and no sentence there may be left without a test.
 */
public final class SentencesTest {
    private static final Checks CHECK = new Checks();
    private static final int PROMISES = 40;
    private static final Pattern QUOTED = Pattern.compile("// Promise (\\d+)(, terms)?: \"([^\"]*)\"");

    /** A text of the document, and which of its signs are quoted. */
    private static final class Passage {
        final String text;
        final boolean[] quoted;

        Passage(String itsText) {
            text = plain(itsText);
            quoted = new boolean[text.length()];
        }

        boolean quote(String words) {
            int at = text.indexOf(words);
            boolean found = at >= 0;
            while (at >= 0) {
                for (int i = at; i < at + words.length(); i++) {
                    quoted[i] = true;
                }
                at = text.indexOf(words, at + 1);
            }
            return found;
        }

        /** What no comment quotes, blanks between. */
        String left() {
            StringBuilder s = new StringBuilder();
            for (int i = 0; i < quoted.length; i++) {
                s.append(quoted[i] ? ' ' : text.charAt(i));
            }
            return plain(s.toString());
        }
    }

    public static void main(String[] args) throws IOException {
        String source = args.length > 0 ? args[0] : "src/main/java/WornWigs.java";
        Path root = Path.of(source).toAbsolutePath().getParent().getParent().getParent().getParent();
        Path shared = root.resolve("../shared/DOC.md");
        if (!Files.exists(shared)) {
            // The class can be as good where the document does not lie beside it.
            System.out.println("no document to compare with: " + shared);
            return;
        }
        String document = Files.readString(shared);
        Passage terms = new Passage(termsOf(document));
        Passage[] promises = new Passage[PROMISES + 1];
        for (int i = 1; i <= PROMISES; i++) {
            promises[i] = new Passage(promiseOf(document, i));
        }
        try (DirectoryStream<Path> files = Files.newDirectoryStream(root.resolve("src/test/java"), "Edges*Test.java")) {
            for (Path file : files) {
                readComments(file, terms, promises);
            }
        }
        nothingIsLeft("the terms", terms);
        for (int i = 1; i <= PROMISES; i++) {
            nothingIsLeft("promise " + i, promises[i]);
        }
        CHECK.end();
    }

    private static String plain(String text) {
        return text.replaceAll("\\s+", " ").trim();
    }

    private static String between(String text, String from, String to) {
        int start = text.indexOf(from);
        int end = start < 0 ? -1 : text.indexOf(to, start + from.length());
        if (end < 0) {
            CHECK.fail("the document has no '" + from + "' with '" + to + "' behind it");
            return "";
        }
        return text.substring(start + from.length(), end);
    }

    /** The one sentence on the calls of an object, and the terms without their marks. */
    private static String termsOf(String document) {
        String calls = "An object is used for" + between(document, "An object is used for", "\n");
        String terms = between(document, "## Terms", "The constants:");
        return calls + " " + terms.replaceAll("====\\s*\\d\\.", "").replaceAll("```(text)?", "");
    }

    /** What is promised, behind the signature. */
    private static String promiseOf(String document, int i) {
        String section = between(document, "## Promise " + i + ": ", "\n## ");
        return section.substring(section.indexOf("`: ") + 3);
    }

    private static void readComments(Path file, Passage terms, Passage[] promises) throws IOException {
        String code = Files.readString(file).replaceAll("\\n *// (?!Promise)", " ");
        Matcher m = QUOTED.matcher(code);
        while (m.find()) {
            int promise = Integer.parseInt(m.group(1));
            if (promise < 1 || promise > PROMISES) {
                CHECK.fail(file.getFileName() + " names promise " + promise);
                continue;
            }
            Passage passage = m.group(2) == null ? promises[promise] : terms;
            CHECK.due(file.getFileName() + " quotes \"" + m.group(3) + "\"", true, passage.quote(plain(m.group(3))));
        }
    }

    private static void nothingIsLeft(String where, Passage passage) {
        CHECK.due(where + " without a test: " + passage.left(), true, passage.left().isEmpty());
    }
}
