import java.io.IOException;
import java.nio.file.Files;
import java.nio.file.Path;
import java.util.List;

/**
 * src/test/sentences.txt names the tests of each sentence of the document. Here it is held against the
 * document, so that no sentence is left out, and against the tests, so that each one named is run.
 */
public final class SentencesTest {
    private static final Path DOCUMENT = Path.of("../shared/DOC.md");
    private static final Path SENTENCES = Path.of("src/test/sentences.txt");
    private static final Path TESTS = Path.of("src/test/java");

    public static void main(String[] args) throws IOException {
        Check.sentence("src/test/sentences.txt");
        List<String> lines = Files.readAllLines(SENTENCES);
        StringBuilder words = new StringBuilder();
        for (int i = lines.indexOf("") + 1; i < lines.size(); i++) {
            String line = lines.get(i);
            boolean isLast = i + 1 == lines.size();
            if (line.startsWith("> ")) {
                words.append(line.substring(2)).append('\n');
                Check.same("something behind \"" + line + "\"", isLast, false);
            } else if (!line.startsWith("  -- ")) {
                Check.same("the test \"" + line + "\" is run", isRun(line.strip()), true);
            }
        }
        Check.same("all words of the document", bare(words.toString()), bare(document()));
        Check.finish();
    }

    private static String document() throws IOException {
        return Files.readString(DOCUMENT).replaceAll("```\\w*", "");
    }

    /** Without blanks and lines, as sentences.txt has lines of its own. */
    private static String bare(String words) {
        return words.replaceAll("\\s+", "");
    }

    /** A test is run if its method stands in its class, and more than once: called, too, or given to Check.test(). */
    private static boolean isRun(String test) throws IOException {
        String name = test.substring(test.indexOf('.') + 1);
        Path file = TESTS.resolve(test.substring(0, test.length() - name.length() - 1) + ".java");
        if (!Files.isRegularFile(file)) {
            return false;
        }
        String source = Files.readString(file);
        boolean isThere = source.matches("(?s).*\\bprivate (static )?\\w+ " + name + "\\(.*");
        boolean isMain = name.equals("main") && source.contains("public static void main(");
        boolean isUsed = source.split("(::|[ .(])" + name + "\\b", -1).length > 2;
        return isMain || isThere && isUsed;
    }
}
