import java.io.IOException;
import java.nio.file.Files;
import java.nio.file.Path;
import java.util.ArrayList;
import java.util.Arrays;
import java.util.Comparator;
import java.util.List;
import java.util.TreeSet;
import java.util.regex.Matcher;
import java.util.regex.Pattern;
import java.util.stream.Stream;

/** README.md: "what it shows of the class's use compiles and answers as it says". */
public final class ReadmeTest {
    private static final Path README = Path.of("README.md");
    private static final Path SOURCE = Path.of("src/main/java/ContractHouse.java");
    private static final Path TESTS = Path.of("src/test/java");
    private static final Pattern PRINTS = Pattern.compile("System\\.out\\.println\\(.*\\); // (.*)");

    public static void main(String[] args) {
        Checks.runAll(ReadmeTest.class);
    }

    static void readmeExamplePrintsWhatItSays() throws Exception {
        List<String> want = new ArrayList<>();
        for (String line : exampleLines()) {
            Matcher prints = PRINTS.matcher(line.strip());
            if (prints.matches()) {
                want.add(prints.group(1));
            }
        }
        Checks.due("the example prints", printedByExample().toString(), want.toString());
    }

    /** Else an answer might stand there that nothing is held against. */
    static void readmeExampleSaysWhatEachPrintingLinePrints() throws IOException {
        for (String line : exampleLines()) {
            if (line.contains("println")) {
                boolean says = PRINTS.matcher(line.strip()).matches();
                Checks.due(line.strip(), says ? "says it" : "says nothing", "says it");
            }
        }
    }

    static void readmeExampleUsesEachCallOfTheFace() throws IOException {
        String example = String.join("\n", exampleLines());
        for (String name : faceNames()) {
            boolean used = example.contains("x." + name + "(");
            Checks.due(name + " in the example", used ? "used" : "not used", "used");
        }
    }

    static void readmeTableHasEachCallOfTheFace() throws IOException {
        TreeSet<String> told = new TreeSet<>();
        Pattern row = Pattern.compile("\\| `([a-z]+)\\(.*");
        for (String line : Files.readAllLines(README)) {
            Matcher call = row.matcher(line);
            if (call.matches()) {
                told.add(call.group(1));
            }
        }
        Checks.due("calls in the table", told.toString(), faceNames().toString());
    }

    static void readmeTellsTheScriptThatRunsTheTests() throws IOException {
        boolean told = Files.readAllLines(README).contains("    .ci/run");
        Checks.due("how to run the tests", told ? "told" : "not told", "told");
        boolean runs = Files.isExecutable(Path.of(".ci/run"));
        Checks.due(".ci/run", runs ? "can be run" : "can't be run", "can be run");
    }

    static void readmeNamesOnlyTestsThatThereAre() throws IOException {
        Matcher named = Pattern.compile("`(\\w+Test)`").matcher(Files.readString(README));
        while (named.find()) {
            boolean there = Files.exists(TESTS.resolve(named.group(1) + ".java"));
            Checks.due(named.group(1), there ? "there" : "not there", "there");
        }
    }

    private static TreeSet<String> faceNames() {
        TreeSet<String> names = new TreeSet<>();
        Arrays.stream(ContractHouse.class.getMethods())
                .filter(m -> m.getDeclaringClass() == ContractHouse.class)
                .forEach(m -> names.add(m.getName()));
        return names;
    }

    private static List<String> exampleLines() throws IOException {
        List<String> lines = new ArrayList<>();
        boolean inside = false;
        for (String line : Files.readAllLines(README)) {
            if (line.startsWith("```")) {
                inside = line.equals("```java");
            } else if (inside) {
                lines.add(line);
            }
        }
        return lines;
    }

    /** The README's own commands, in a directory that holds the class where the project does. */
    private static List<String> printedByExample() throws Exception {
        Path project = Files.createTempDirectory("readme");
        try {
            Files.createDirectories(project.resolve(SOURCE).getParent());
            Files.copy(SOURCE, project.resolve(SOURCE));
            Files.write(project.resolve("Example.java"), exampleLines());
            List<String> printed = new ArrayList<>();
            for (String line : Files.readAllLines(README)) {
                if (line.matches(" {4}javac? .*Example.*")) {
                    printed.addAll(printedBy(line.strip(), project));
                }
            }
            return printed;
        } finally {
            delete(project);
        }
    }

    private static List<String> printedBy(String command, Path directory) throws Exception {
        Path printed = directory.resolve("printed");
        Process process = new ProcessBuilder(command.split(" "))
                .directory(directory.toFile())
                .redirectError(ProcessBuilder.Redirect.INHERIT)
                .redirectOutput(printed.toFile())
                .start();
        Checks.due(command + " ends with", process.waitFor(), 0);
        return Files.readAllLines(printed);
    }

    private static void delete(Path directory) throws IOException {
        try (Stream<Path> found = Files.walk(directory)) {
            for (Path path : found.sorted(Comparator.reverseOrder()).toList()) {
                Files.delete(path);
            }
        }
    }
}
