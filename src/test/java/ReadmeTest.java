import java.io.IOException;
import java.lang.reflect.Method;
import java.lang.reflect.Modifier;
import java.nio.file.Files;
import java.nio.file.Path;
import java.util.ArrayList;
import java.util.Comparator;
import java.util.List;
import java.util.regex.Matcher;
import java.util.regex.Pattern;
import java.util.stream.Stream;

/** README.md: its example is compiled and run by its own commands, and prints the answers that it tells. */
public final class ReadmeTest {
    private static final Path README = Path.of("README.md");
    private static final Path PROGRAM = Path.of("src/main/java/TagField.java");

    /** A call of the example: what is called, and the answer that README.md tells behind it. */
    private static final Pattern CALL =
            Pattern.compile(" *System\\.out\\.println\\((x\\.(\\w+)\\(.*\\))\\); +// (-?\\d+)(:.*)?");

    public static void main(String[] args) throws IOException, InterruptedException {
        String example = block("java", "class Mine");
        everyCallTellsItsAnswer(example);
        theExampleUsesTheWholeFace(example);
        theExampleAnswersAsTold(example);
        refusalsAreToldWithTheirNumbers();
        theTestsAreRunAsTold();
        everyTestIsNamed();
        Desk.end();
    }

    /** The text of the one fenced block of that language that has these words in it. */
    private static String block(String language, String words) throws IOException {
        Pattern fenced = Pattern.compile("^```" + language + "\\n(.*?)^```$", Pattern.DOTALL | Pattern.MULTILINE);
        List<String> blocks = fenced.matcher(Files.readString(README)).results()
                .map(block -> block.group(1)).filter(text -> text.contains(words)).toList();
        Desk.due("README.md's blocks of " + language + " with '" + words + "'", blocks.size(), 1);
        return blocks.isEmpty() ? "" : blocks.get(0);
    }

    private static List<Matcher> calls(String example) {
        List<Matcher> calls = new ArrayList<>();
        for (String line : example.lines().toList()) {
            Matcher call = CALL.matcher(line);
            if (call.matches()) {
                calls.add(call);
            }
        }
        return calls;
    }

    private static void everyCallTellsItsAnswer(String example) {
        for (String line : example.lines().toList()) {
            if (line.contains("x.")) {
                Desk.due("a call with its answer: " + line.strip(), CALL.matcher(line).matches(), true);
            }
        }
    }

    private static void theExampleUsesTheWholeFace(String example) {
        List<String> used = calls(example).stream().map(call -> call.group(2)).toList();
        for (Method method : TagField.class.getDeclaredMethods()) {
            if (Modifier.isPublic(method.getModifiers())) {
                Desk.due("README.md calls " + method.getName(), used.contains(method.getName()), true);
            }
        }
    }

    private static void theExampleAnswersAsTold(String example) throws IOException, InterruptedException {
        List<String> printed = run(example, block("sh", "Mine.java"));
        List<Matcher> calls = calls(example);
        Desk.due("lines that README.md's example prints", printed.size(), calls.size());
        for (int i = 0; i < Math.min(printed.size(), calls.size()); i++) {
            String call = "README.md, call " + (i + 1) + ": " + calls.get(i).group(1);
            Desk.due(call, printed.get(i), calls.get(i).group(3));
        }
    }

    /** What the commands print in a directory where the example and the program lie as README.md says. */
    private static List<String> run(String example, String commands) throws IOException, InterruptedException {
        Path directory = Files.createTempDirectory("readme");
        try {
            Files.createDirectories(directory.resolve(PROGRAM).getParent());
            Files.copy(PROGRAM, directory.resolve(PROGRAM));
            Files.writeString(directory.resolve("Mine.java"), example);
            Path printed = directory.resolve("printed");
            // Errors go to this test's own: a JVM may print there what its environment set.
            Process process = new ProcessBuilder("sh", "-e", "-c", commands).directory(directory.toFile())
                    .redirectError(ProcessBuilder.Redirect.INHERIT).redirectOutput(printed.toFile()).start();
            Desk.due("the exit code of README.md's commands", process.waitFor(), 0);
            return Files.readAllLines(printed);
        } finally {
            delete(directory);
        }
    }

    private static void delete(Path directory) throws IOException {
        try (Stream<Path> all = Files.walk(directory)) {
            for (Path path : all.sorted(Comparator.reverseOrder()).toList()) {
                Files.delete(path);
            }
        }
    }

    private static void refusalsAreToldWithTheirNumbers() throws IOException {
        String text = Files.readString(README).replaceAll("\\s+", " ");
        String told = "`UNKNOWN` (" + TagField.UNKNOWN + "), `OUTSIDE` (" + TagField.OUTSIDE
                + "), `STATE` (" + TagField.STATE + "), `ROOM` (" + TagField.ROOM + ")";
        Desk.due("README.md tells " + told, text.contains(told), true);
        String none = "`NONE` is " + TagField.NONE + ".";
        Desk.due("README.md tells " + none, text.contains(none), true);
    }

    private static void theTestsAreRunAsTold() throws IOException {
        String command = block("sh", ".ci/run").strip();
        Desk.due("the command that runs the tests", command, ".ci/run");
        Desk.due(command + " is executable", Files.isExecutable(Path.of(command)), true);
    }

    private static void everyTestIsNamed() throws IOException {
        String text = Files.readString(README);
        try (Stream<Path> files = Files.list(Path.of("src/test/java"))) {
            for (Path file : files.sorted().toList()) {
                String name = file.getFileName().toString().replace(".java", "");
                Desk.due("README.md names " + name, text.contains("`" + name + "`"), true);
            }
        }
    }
}
