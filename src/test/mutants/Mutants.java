import java.io.IOException;
import java.nio.file.Files;
import java.nio.file.Path;
import java.util.ArrayList;
import java.util.List;
import java.util.concurrent.TimeUnit;
import java.util.stream.IntStream;
import javax.tools.JavaCompiler;
import javax.tools.ToolProvider;

/**
 * Shows that the tests of the sentences would fail if the sentences were broken: each mutant of
 * mutants.txt is MeterNetwork with one sentence broken, and the test that it names has to complain of
 * that very sentence. Arguments: the class, mutants.txt, the compiled tests, a folder to work in.
 */
public final class Mutants {
    private static final int MOST_SECONDS = 30;

    private final List<String> source;
    private final String tests;
    private final Path work;

    private Mutants(Path source, String tests, Path work) throws IOException {
        this.source = Files.readAllLines(source);
        this.tests = tests;
        this.work = work;
    }

    /** The sentence is the one that the test prints in front of a complaint. */
    private static final class Mutant {
        private final String test;
        private final String sentence;
        private final List<String> removed = new ArrayList<>();
        private final List<String> added = new ArrayList<>();

        private Mutant(String line) {
            test = line.substring(2, line.indexOf(": "));
            sentence = line.substring(line.indexOf(": ") + 2);
        }

        @Override
        public String toString() {
            return test + ": " + sentence + "\n  - " + String.join("\n  - ", removed) + "\n  + "
                    + String.join("\n  + ", added);
        }
    }

    public static void main(String[] args) throws IOException {
        Mutants mutants = new Mutants(Path.of(args[0]), args[2], Path.of(args[3]));
        List<Mutant> all = read(Path.of(args[1]));
        long alive = IntStream.range(0, all.size()).parallel().filter(i -> !mutants.isKilled(all.get(i), i)).count();
        System.out.println(all.size() + " mutants, " + alive + " of them not found by their sentence's test");
        System.exit(alive == 0 ? 0 : 1);
    }

    private static List<Mutant> read(Path file) throws IOException {
        List<Mutant> mutants = new ArrayList<>();
        for (String line : Files.readAllLines(file)) {
            if (line.startsWith("= ")) {
                mutants.add(new Mutant(line));
            } else if (line.startsWith("- ")) {
                mutants.get(mutants.size() - 1).removed.add(line.substring(2));
            } else if (line.startsWith("+ ")) {
                mutants.get(mutants.size() - 1).added.add(line.substring(2));
            }
        }
        return mutants;
    }

    private boolean isKilled(Mutant mutant, int number) {
        try {
            Path folder = Files.createDirectories(work.resolve("mutant" + number));
            int place = placeOf(mutant.removed);
            if (place < 0) {
                return tell(mutant, "its lines do not stand in the class just once");
            }
            List<String> changed = new ArrayList<>(source.subList(0, place));
            changed.addAll(mutant.added);
            changed.addAll(source.subList(place + mutant.removed.size(), source.size()));
            Path file = Files.write(folder.resolve("MeterNetwork.java"), changed);
            JavaCompiler compiler = ToolProvider.getSystemJavaCompiler();
            if (compiler.run(null, null, null, "-d", folder.toString(), file.toString()) != 0) {
                return tell(mutant, "it does not compile");
            }
            return complains(mutant, folder);
        } catch (IOException | InterruptedException e) {
            return tell(mutant, e.toString());
        }
    }

    private boolean complains(Mutant mutant, Path folder) throws IOException, InterruptedException {
        Path output = folder.resolve("output");
        Process process = new ProcessBuilder("java", "-cp", folder + System.getProperty("path.separator") + tests,
                mutant.test).redirectErrorStream(true).redirectOutput(output.toFile()).start();
        if (!process.waitFor(MOST_SECONDS, TimeUnit.SECONDS)) {
            process.destroyForcibly();
            return tell(mutant, "its test did not end");
        }
        String printed = Files.readString(output);
        if (process.exitValue() == 0) {
            return tell(mutant, "its test passes");
        }
        return printed.contains("[" + mutant.sentence + "]") || tell(mutant, "its test fails, but not for its sentence");
    }

    /** Where these lines stand in the class, whatever stands before and behind them; -1 if not just once. */
    private int placeOf(List<String> lines) {
        int place = -1;
        for (int first = 0; first + lines.size() <= source.size(); first++) {
            boolean isSame = true;
            for (int i = 0; i < lines.size() && isSame; i++) {
                isSame = source.get(first + i).trim().equals(lines.get(i));
            }
            if (isSame && place >= 0) {
                return -1;
            }
            place = isSame ? first : place;
        }
        return place;
    }

    private static boolean tell(Mutant mutant, String complaint) {
        System.out.println("ALIVE: " + complaint + "\n" + mutant);
        return false;
    }
}
