import java.io.IOException;
import java.nio.file.Files;
import java.nio.file.Path;
import java.nio.file.StandardCopyOption;
import java.util.ArrayList;
import java.util.List;
import java.util.TreeSet;
import java.util.regex.Matcher;
import java.util.regex.Pattern;

/** README.md: its example, followed as a reader would do it, and what it names. Runs in the project's root. */
final class ReadmeTest {
    private static final Path FOLDER = Path.of("build", "readme");
    private static final Path SOURCE = Path.of("src", "main", "java", "DimensionLoader.java");
    private static final Path TESTS = Path.of("src", "test", "java");
    private static final String ANSWER = "// ";

    public static void main(String[] args) throws IOException, InterruptedException {
        List<String> readme = Files.readAllLines(Path.of("README.md"));
        List<String> program = block(readme, "```java");
        Files.createDirectories(FOLDER);
        Files.write(FOLDER.resolve("Example.java"), program);
        Files.copy(SOURCE, FOLDER.resolve("DimensionLoader.java"), StandardCopyOption.REPLACE_EXISTING);
        List<String> printed = new ArrayList<>();
        for (String command : block(readme, "```sh")) {
            printed.addAll(run(command));
        }
        Checks.sameText("what README.md's example prints", String.join("\n", printed), String.join("\n", answers(program)));
        Checks.same("answers that it shows", answers(program).size() > 0, true);
        namesEachTest(readme);
        Checks.end("ReadmeTest");
    }

    /** The lines of the only block that begins like this. */
    private static List<String> block(List<String> readme, String beginning) {
        int first = readme.indexOf(beginning);
        Checks.same("blocks that begin with " + beginning, first >= 0 && first == readme.lastIndexOf(beginning), true);
        List<String> behind = readme.subList(first + 1, readme.size());
        return behind.subList(0, Math.max(0, behind.indexOf("```")));
    }

    private static List<String> answers(List<String> program) {
        List<String> answers = new ArrayList<>();
        for (String line : program) {
            if (line.contains(ANSWER)) {
                answers.add(line.substring(line.indexOf(ANSWER) + ANSWER.length()));
            }
        }
        return answers;
    }

    /** What a command of README.md prints in the folder of the example. */
    private static List<String> run(String command) throws IOException, InterruptedException {
        Path printed = FOLDER.resolve("printed.txt");
        Process process = new ProcessBuilder(command.split(" ")).directory(FOLDER.toFile())
                .redirectOutput(printed.toFile()).redirectError(ProcessBuilder.Redirect.INHERIT).start();
        Checks.same(command + " ends with", process.waitFor(), 0);
        return Files.readAllLines(printed);
    }

    /** Its table names the tests that there are, and no others. */
    private static void namesEachTest(List<String> readme) {
        TreeSet<String> named = new TreeSet<>();
        for (String line : readme) {
            Matcher row = Pattern.compile("\\| `(\\w+Test)` \\|.*").matcher(line);
            if (row.matches()) {
                named.add(row.group(1));
            }
        }
        TreeSet<String> there = new TreeSet<>();
        for (String file : TESTS.toFile().list()) {
            if (file.endsWith("Test.java")) {
                there.add(file.substring(0, file.length() - ".java".length()));
            }
        }
        Checks.sameText("tests that README.md names", named.toString(), there.toString());
    }
}
