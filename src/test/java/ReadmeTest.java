import java.io.IOException;
import java.nio.charset.StandardCharsets;
import java.nio.file.DirectoryStream;
import java.nio.file.Files;
import java.nio.file.Path;
import java.util.ArrayList;
import java.util.List;
import java.util.regex.Matcher;
import java.util.regex.Pattern;

/** README.md: its example answers what it says, its commands work as they stand, its tables are whole. */
final class ReadmeTest {
    private static final Check CHECK = new Check("ReadmeTest");
    private static final String TESTS_COMMAND = ".ci/run";

    private static Path root;
    private static String readme;

    public static void main(String[] args) throws IOException, InterruptedException {
        root = Path.of(args.length > 0 ? args[0] : ".").toAbsolutePath();
        readme = Files.readString(root.resolve("README.md"));
        exampleStandsInItsFile();
        exampleAnswersWhatItSays();
        commandOfTests();
        testsOfTables();
        callsOfTable();
        constantsOfTable();
        CHECK.end();
    }

    /** The blocks of a language, in their order, without their fences. */
    private static List<String> blocks(String language) {
        List<String> found = new ArrayList<>();
        Matcher matcher = Pattern.compile("(?ms)^```" + language + "\n(.*?)^```$").matcher(readme);
        while (matcher.find()) {
            found.add(matcher.group(1));
        }
        return found;
    }

    private static void exampleStandsInItsFile() throws IOException {
        List<String> examples = blocks("java");
        CHECK.due("README: examples", 1, examples.size());
        String file = Files.readString(root.resolve("src/example/java/Example.java"));
        CHECK.holds("README: the example is the file that it names", examples.contains(file));
    }

    private static void exampleAnswersWhatItSays() throws IOException, InterruptedException {
        List<String> said = new ArrayList<>();
        int printed = 0;
        for (String line : String.join("", blocks("java")).split("\n")) {
            printed += line.contains("println(") ? 1 : 0;
            Matcher matcher = Pattern.compile("println\\(tower\\..*\\); *// (-?[0-9]+): ").matcher(line);
            if (matcher.find()) {
                said.add(matcher.group(1));
            }
        }
        CHECK.holds("README: the example prints", printed > 0);
        CHECK.due("README: each answer is said", printed, said.size());
        List<String> commands = blocks("sh");
        CHECK.due("README: blocks of commands", 3, commands.size());
        String answers = run(commands.get(0));
        CHECK.holds("README: said are " + said + ", printed " + answers, answers.equals(String.join("\n", said)));
    }

    /** The tests' own command runs this test, so it is only looked at; the one of a single test is run. */
    private static void commandOfTests() throws IOException, InterruptedException {
        List<String> commands = blocks("sh");
        CHECK.holds("README: the command for the tests", commands.get(1).equals(TESTS_COMMAND + "\n"));
        CHECK.holds("README: which can be run", Files.isExecutable(root.resolve(TESTS_COMMAND)));
        CHECK.holds("README: a single test", run(commands.get(2)).endsWith(" 0 wrong"));
    }

    /** Answers what the commands print; all of them must work in the project's directory. */
    private static String run(String commands) throws IOException, InterruptedException {
        Process process = new ProcessBuilder("bash", "-e", "-c", commands).directory(root.toFile())
            .redirectErrorStream(true).start();
        String printed = new String(process.getInputStream().readAllBytes(), StandardCharsets.UTF_8);
        CHECK.due("README: exit code of " + commands.strip(), 0, process.waitFor());
        return printed.strip();
    }

    private static void testsOfTables() throws IOException {
        List<String> files = new ArrayList<>();
        try (DirectoryStream<Path> tests = Files.newDirectoryStream(root.resolve("src/test/java"), "*Test.java")) {
            for (Path test : tests) {
                files.add(test.getFileName().toString().replace(".java", ""));
            }
        }
        List<String> told = firstCells("`(\\w+Test)`");
        CHECK.due("README: tests that are told", files.size(), told.size());
        for (String name : files) {
            CHECK.holds("README: tells of " + name, told.contains(name));
        }
    }

    private static void callsOfTable() {
        StringBuilder cells = new StringBuilder();
        for (String cell : firstCells("(`\\w+\\([a-z, ]*\\)`.*?)")) {
            cells.append(cell);
        }
        for (String method : FormTest.METHODS) {
            String name = method.substring(0, method.indexOf(' '));
            Matcher call = Pattern.compile("`" + name + "\\(([a-z, ]*)\\)`").matcher(cells);
            boolean isTold = call.find();
            CHECK.holds("README: tells of " + name, isTold);
            if (isTold) {
                String arguments = call.group(1);
                int count = arguments.isEmpty() ? 0 : arguments.split(", ").length;
                CHECK.due("README: arguments of " + name, Integer.parseInt(method.substring(name.length() + 1)), count);
                CHECK.holds("README: tells of " + name + " once", !call.find());
            }
        }
    }

    private static void constantsOfTable() {
        int[] values = {TowerFaces.NO_SUCH, TowerFaces.BAD_VALUE, TowerFaces.NOT_POSSIBLE, TowerFaces.LIMIT,
            TowerFaces.BAD_TEXT, TowerFaces.NONE};
        String[] names = {"NO_SUCH", "BAD_VALUE", "NOT_POSSIBLE", "LIMIT", "BAD_TEXT", "NONE"};
        for (int place = 0; place < names.length; place++) {
            CHECK.holds("README: " + names[place], readme.contains("\n| `" + names[place] + "` | " + values[place] + " | "));
        }
    }

    /** What the first cells of the tables' rows hold, where they are of this form. */
    private static List<String> firstCells(String form) {
        List<String> found = new ArrayList<>();
        Matcher matcher = Pattern.compile("(?m)^\\| " + form + " \\| ").matcher(readme);
        while (matcher.find()) {
            found.add(matcher.group(1));
        }
        return found;
    }
}
