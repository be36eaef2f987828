import java.io.IOException;
import java.lang.reflect.InvocationTargetException;
import java.lang.reflect.Method;
import java.lang.reflect.Modifier;
import java.nio.file.Files;
import java.nio.file.Path;
import java.util.ArrayList;
import java.util.List;
import java.util.Map;
import java.util.TreeMap;
import java.util.regex.Matcher;
import java.util.regex.Pattern;

/** README.md tells how to use the class: its examples answer as they say, and each call of the face is told. */
public final class ReadmeTest {
    private static final Path README = Path.of("README.md");
    private static final Pattern CALL = Pattern.compile("network\\.(\\w+)\\((.*?)\\); +// (throws )?([-\\w.]+).*");
    private static final Pattern TEXT = Pattern.compile("String text = \"(.*)\";");
    private static final Map<String, Method> METHODS = new TreeMap<>();

    public static void main(String[] args) throws IOException, ReflectiveOperationException {
        for (Method method : MeterNetwork.class.getDeclaredMethods()) {
            if (Modifier.isPublic(method.getModifiers())) {
                METHODS.put(method.getName(), method);
            }
        }
        List<String> lines = Files.readAllLines(README);
        examples(lines);
        everyCallIsTold(lines);
        Check.finish();
    }

    private static void examples(List<String> lines) throws ReflectiveOperationException {
        Check.sentence("README.md, the examples");
        MeterNetwork network = new MeterNetwork();
        int calls = 0;
        for (String line : lines) {
            Matcher call = CALL.matcher(line);
            Matcher text = TEXT.matcher(line);
            if (line.equals("MeterNetwork network = new MeterNetwork();")) {
                network = new MeterNetwork();
            } else if (text.matches()) {
                Check.write(network, text.group(1));
            } else if (call.matches()) {
                calls++;
                String due = call.group(3) == null ? call.group(4) : "throws " + call.group(4);
                Check.same(line, answer(network, METHODS.get(call.group(1)), call.group(2)), due);
            } else if (line.startsWith("network.")) {
                Check.same(line, "no answer is told", "an answer");
            }
        }
        Check.same("there are calls", calls > 0, true);
    }

    private static String answer(MeterNetwork network, Method method, String arguments)
            throws ReflectiveOperationException {
        List<Object> given = new ArrayList<>();
        for (String argument : arguments.isEmpty() ? new String[0] : arguments.split(", ")) {
            boolean isFlag = argument.equals("true") || argument.equals("false");
            given.add(isFlag ? (Object) argument.equals("true") : (Object) Integer.parseInt(argument));
        }
        try {
            return String.valueOf(method.invoke(network, given.toArray()));
        } catch (InvocationTargetException e) {
            return "throws " + e.getCause().getClass().getSimpleName();
        }
    }

    /** Each call stands at the head of a row of a table, with as many arguments as it has. */
    private static void everyCallIsTold(List<String> lines) {
        Check.sentence("README.md, the calls");
        Map<String, Integer> told = new TreeMap<>();
        for (String line : lines) {
            Matcher row = Pattern.compile("\\| `(\\w+)\\((.*?)\\)` \\|.*").matcher(line);
            if (row.matches()) {
                told.put(row.group(1), row.group(2).isEmpty() ? 0 : row.group(2).split(", ").length);
            }
        }
        Map<String, Integer> due = new TreeMap<>();
        for (Method method : METHODS.values()) {
            due.put(method.getName(), method.getParameterCount());
        }
        Check.same("the calls and how many arguments they have", told.toString(), due.toString());
    }
}
