import java.io.IOException;
import java.nio.file.Files;
import java.nio.file.Path;
import java.util.ArrayList;
import java.util.List;
import java.util.Set;
import java.util.TreeSet;
import java.util.regex.Matcher;
import java.util.regex.Pattern;

/**
 * The rules of LANGUAGE.md that can be read off the text of the class; FaceTest looks at rule 1. It knows
 * just what the class uses: whoever wants more of what the rules allow, adds it here.
 */
public final class FormTest {
    private static final Set<String> WORDS = Set.of("MeterNetwork", "State", "Readings", "History", "TextBuffer",
            "Math", "System", "IndexOutOfBoundsException", "IllegalArgumentException", "IllegalStateException");
    private static final Set<String> LIBRARY = Set.of("Math.floorMod", "Math.min", "System.arraycopy");

    private final String raw;
    /** Without comments, and with nothing inside the marks of texts and signs. */
    private final String code;
    private final List<String> lines;

    private FormTest(String raw) {
        this.raw = raw;
        code = raw.replaceAll("(?s)/\\*.*?\\*/", "").replaceAll("//[^\n]*", "").replaceAll("\"[^\"\n]*\"", "\"\"")
                .replaceAll("'[^'\n]+'", "''");
        lines = List.of(code.split("\n"));
    }

    public static void main(String[] args) throws IOException {
        FormTest form = new FormTest(Files.readString(Path.of("src/main/java/MeterNetwork.java")));
        form.words();
        form.staticFields();
        form.exceptions();
        form.loopsAndTexts();
        form.sizes();
        Check.finish();
    }

    private List<String> found(String pattern) {
        List<String> found = new ArrayList<>();
        Matcher matcher = Pattern.compile(pattern).matcher(code);
        while (matcher.find()) {
            found.add(matcher.group());
        }
        return found;
    }

    private void none(String rule, String pattern) {
        Check.sentence(rule);
        Check.same(pattern, String.join(", ", found(pattern)), "");
    }

    private void words() {
        none("LANGUAGE.md 1: without a package line", "\\b(package|import)\\b");
        none("LANGUAGE.md 2: no lambda, no method reference", "->|::");
        none("LANGUAGE.md 3: no types but these", "\\b(float|var|Object|List|ArrayList|StringBuilder)\\b");
        Check.sentence("LANGUAGE.md 3 and 4: no class but these");
        Set<String> words = new TreeSet<>(found("\\b[A-Z]\\w*[a-z]\\w*\\b"));
        words.removeAll(WORDS);
        Check.same("other classes", words.toString(), "[]");
        Check.sentence("LANGUAGE.md 4: no function of the library but these");
        Set<String> library = new TreeSet<>(found("\\b(Math|System)\\.\\w+"));
        library.removeAll(LIBRARY);
        Check.same("other functions", library.toString(), "[]");
        Check.sentence("LANGUAGE.md 4: constants, whose signs are 1 to 127");
        Check.same("other signs", raw.chars().filter(sign -> sign > 126).count(), 0);
        none("LANGUAGE.md 13: no clock, no randomness, no threads", "\\b(nanoTime|currentTimeMillis|random|Thread)\\b");
    }

    private void staticFields() {
        Check.sentence("LANGUAGE.md 5: static fields are final");
        for (String line : lines) {
            boolean isStaticField = line.matches("\\s*((public|private) )?static .*") && line.contains(";");
            Check.same(line, isStaticField && !line.contains(" final "), false);
        }
        none("LANGUAGE.md 5: no static initialiser block", "\\bstatic\\s*\\{");
    }

    private void exceptions() {
        none("LANGUAGE.md 6: none of these", "\\b(try|catch|finally|synchronized|assert|equals|hashCode|toString)\\b");
        Check.sentence("LANGUAGE.md 6: throw new E(\"a written text\")");
        int throwsInAll = found("\\bthrow\\b").size();
        String form = "\\bthrow new (IndexOutOfBounds|IllegalArgument|IllegalState)Exception\\(\"\"\\);";
        Check.same("throw statements", found(form).size(), throwsInAll);
        none("LANGUAGE.md 6: no throw in a constructor", "(public|private) [A-Z]\\w*\\(\\) \\{[^}]*\\bthrow\\b");
    }

    private void loopsAndTexts() {
        none("LANGUAGE.md 9: every loop has an end", "while \\(true\\)|for \\([^;)]*;\\s*;");
        none("LANGUAGE.md 10: joining texts not by +", "\"\\s*\\+|\\+\\s*\"");
    }

    private void sizes() {
        Check.sentence("LANGUAGE.md 11: at most some twelve classes");
        Check.same("classes", found("\\bclass [A-Z]").size() <= 12, true);
        Check.sentence("LANGUAGE.md 11: at most seven parameters");
        for (String head : found("\\b(public|private) [^=;{}]*?\\([^)]*\\)")) {
            Check.same(head, head.split(",").length <= 7, true);
        }
        Check.sentence("LANGUAGE.md 11: some sixty lines");
        for (String method : code.split("\n\n")) {
            boolean isClass = method.contains(" class ");
            Check.same(method.strip().lines().findFirst().orElse(""), isClass || method.lines().count() <= 60, true);
        }
        Check.sentence("LANGUAGE.md 11: some twenty fields beside its constants");
        for (String body : code.split("\\bclass ")) {
            Matcher field = Pattern.compile("\n( {4}| {8})private (final )?[\\w\\[\\]]+ \\w+( = [^;]*)?;").matcher(body);
            Check.same("fields", field.results().count() <= 20, true);
        }
    }
}
