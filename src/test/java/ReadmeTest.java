import java.io.IOException;
import java.io.UncheckedIOException;
import java.lang.reflect.Method;
import java.lang.reflect.Modifier;
import java.nio.file.Files;
import java.nio.file.Path;
import java.util.ArrayList;
import java.util.Comparator;
import java.util.List;
import java.util.Set;
import java.util.TreeSet;
import java.util.regex.Matcher;
import java.util.regex.Pattern;
import java.util.stream.Stream;

/** README.md: what it says of using the class and of running its tests holds. Runs in the project's directory. */
public final class ReadmeTest {
    private static final String README = "README.md";
    private static final Path TESTS = Path.of("src", "test", "java");
    private static final Path CLASS = Path.of("src", "main", "java", "RenameRows.java");

    private final String text;
    private final Path room;

    private ReadmeTest(String text, Path room) {
        this.text = text;
        this.room = room;
    }

    public static void main(String[] args) throws IOException, InterruptedException {
        Path room = Files.createTempDirectory("readme");
        try {
            ReadmeTest test = new ReadmeTest(Files.readString(Path.of(README)), room);
            test.theExamplePrintsWhatItSays();
            test.theTestsRunByTheirCommands();
            test.everyCallHasItsRow();
            test.everyTestHasItsRow();
            test.everyFileIsThere();
        } finally {
            remove(room);
        }
        Check.close();
    }

    private void theExamplePrintsWhatItSays() throws IOException, InterruptedException {
        Check.about(README, "the number in a comment is what its line prints");
        List<String> programs = blocks("java");
        Check.due("examples", programs.size(), 1);
        Path project = room.resolve("project");
        Files.createDirectories(project.resolve(CLASS).getParent());
        Files.copy(CLASS, project.resolve(CLASS));
        Files.writeString(project.resolve("Example.java"), programs.get(0));
        List<String> commands = commandsWith("Example");
        Check.due("blocks of commands for it", commands.size(), 1);
        Ran ran = run(commands.get(0), project);
        Check.due("the commands' exit code", ran.exit, 0);
        List<String> want = numbersInComments(programs.get(0));
        Check.holds("there are numbers in the comments", want.size() > 3);
        Check.holds("printed " + ran.lines + ", due is " + want, ran.lines.equals(want));
    }

    private static List<String> numbersInComments(String program) {
        List<String> numbers = new ArrayList<>();
        Matcher m = Pattern.compile("// (-?\\d+): ").matcher(program);
        while (m.find()) {
            numbers.add(m.group(1));
        }
        return numbers;
    }

    /** The block that is .ci/run alone is not run: it would run this test again. */
    private void theTestsRunByTheirCommands() throws IOException, InterruptedException {
        Check.about(README, ".ci/run");
        Check.due("a block that is .ci/run alone", commandsWith("^\\.ci/run\n$").size(), 1);
        Check.holds(".ci/run is executable", Files.isExecutable(Path.of(".ci", "run")));
        Check.about(README, "One test alone");
        List<String> commands = commandsWith("src/test/java");
        Check.due("blocks of commands for it", commands.size(), 1);
        Ran ran = run(commands.get(0), Path.of(""));
        Check.due("the commands' exit code", ran.exit, 0);
        Check.holds("its last line is a test's: " + ran.lines,
                !ran.lines.isEmpty() && ran.lines.get(ran.lines.size() - 1).endsWith(" 0 not as due"));
    }

    private void everyCallHasItsRow() {
        Check.about(README, "The calls, in short");
        Set<String> want = new TreeSet<>(Set.of("new RenameRows"));
        for (Method m : RenameRows.class.getDeclaredMethods()) {
            if (Modifier.isPublic(m.getModifiers())) {
                want.add(m.getName());
            }
        }
        Set<String> told = new TreeSet<>(found("(?m)^\\| `([A-Za-z ]+)\\("));
        Check.holds("rows of calls " + told + ", due are " + want, told.equals(want));
    }

    private void everyTestHasItsRow() throws IOException {
        Check.about(README, "| test | what it is about |");
        Set<String> told = new TreeSet<>(found("(?m)^\\| `([A-Za-z0-9]+Test)`"));
        Check.holds("the promises' tests are told as a range",
                text.contains("\n| `Promise01Test` .. `Promise17Test` |"));
        for (int promise = 2; promise <= 17; promise++) {
            told.add(String.format("Promise%02dTest", promise));
        }
        Set<String> want = new TreeSet<>();
        for (String file : files()) {
            if (file.endsWith("Test.java")) {
                want.add(file.substring(0, file.length() - ".java".length()));
            }
        }
        Check.holds("rows of tests " + told + ", due are " + want, told.equals(want));
    }

    private void everyFileIsThere() throws IOException {
        Check.about(README, "What helps the tests");
        for (String file : files()) {
            Check.holds(file + " is a test or told",
                    file.endsWith("Test.java") || text.contains("`" + file + "`"));
        }
        for (String path : found("`((?:\\.\\./shared|src|\\.ci)/[A-Za-z0-9./]+)`")) {
            Check.holds(path + " is there", Files.exists(Path.of(path)));
        }
    }

    private static Set<String> files() throws IOException {
        Set<String> names = new TreeSet<>();
        try (Stream<Path> all = Files.list(TESTS)) {
            all.forEach(path -> names.add(path.getFileName().toString()));
        }
        return names;
    }

    private List<String> found(String pattern) {
        List<String> all = new ArrayList<>();
        Matcher m = Pattern.compile(pattern).matcher(text);
        while (m.find()) {
            all.add(m.group(1));
        }
        return all;
    }

    private List<String> blocks(String language) {
        return found("(?s)\n```" + language + "\n(.*?)```");
    }

    private List<String> commandsWith(String pattern) {
        List<String> fit = new ArrayList<>();
        for (String block : blocks("sh")) {
            if (Pattern.compile(pattern).matcher(block).find()) {
                fit.add(block);
            }
        }
        return fit;
    }

    private static final class Ran {
        final int exit;
        final List<String> lines;

        Ran(int exit, List<String> lines) {
            this.exit = exit;
            this.lines = lines;
        }
    }

    /** What mktemp makes is made in the test's own room, which is removed. */
    private Ran run(String commands, Path directory) throws IOException, InterruptedException {
        Path told = Files.createTempFile(room, "told", "");
        ProcessBuilder shell = new ProcessBuilder("bash", "-e", "-c", commands);
        shell.directory(directory.toAbsolutePath().toFile());
        shell.environment().put("TMPDIR", room.toString());
        shell.redirectError(ProcessBuilder.Redirect.INHERIT).redirectOutput(told.toFile());
        int exit = shell.start().waitFor();
        return new Ran(exit, Files.readAllLines(told));
    }

    private static void remove(Path room) throws IOException {
        try (Stream<Path> all = Files.walk(room)) {
            all.sorted(Comparator.reverseOrder()).forEach(path -> {
                try {
                    Files.delete(path);
                } catch (IOException e) {
                    throw new UncheckedIOException(e);
                }
            });
        }
    }
}
