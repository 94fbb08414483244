import java.io.IOException;
import java.nio.file.Files;
import java.nio.file.Path;
import java.nio.file.StandardCopyOption;
import java.util.List;

/** The commands that README.md names for the tests: they run them, and fail if one fails. */
public final class CommandsTest {
    private static final String CLASS = "src/main/java/RotationPress.java";
    private static final String TESTS = "src/test/java";
    private static final String GOOD = "System.out.println(new RotationPress().length());";
    private static final String WRONG = GOOD + " System.exit(1);";
    private static final String THROWS = GOOD + " throw new IllegalStateException();";
    private static final String NO_JAVA = GOOD + " none such";

    private static String all;
    private static List<String> one;

    public static void main(String[] args) throws IOException, InterruptedException {
        List<List<String>> blocks = Readme.blocks("sh");
        Due.same("blocks of commands", blocks.size(), 2);
        Due.same("commands for all tests", blocks.get(0).size(), 1);
        all = blocks.get(0).get(0);
        one = blocks.get(1);
        runsAll("both are good", GOOD, GOOD, 0);
        runsAll("the shared test is wrong", WRONG, GOOD, 1);
        runsAll("the project's test is wrong", GOOD, WRONG, 1);
        runsAll("a test throws", GOOD, THROWS, 1);
        runsAll("a test is no Java", NO_JAVA, GOOD, 1);
        noSharedTest();
        runsOne();
        Due.finish();
    }

    /** A small project beside a small shared directory, for the command must not run itself. */
    private static Path project() throws IOException {
        Path main = Files.createTempDirectory("commands").resolve("main");
        Files.createDirectories(main.resolve(".ci"));
        Files.createDirectories(main.resolve("src/main/java"));
        Files.createDirectories(main.resolve(TESTS));
        Files.createDirectories(main.resolve("../shared/tests"));
        Files.copy(Path.of(CLASS), main.resolve(CLASS));
        Files.copy(Path.of(".ci/run"), main.resolve(".ci/run"), StandardCopyOption.COPY_ATTRIBUTES);
        return main;
    }

    private static void remove(Path main) throws IOException, InterruptedException {
        Command.run(Path.of("."), "rm -r " + main.getParent());
    }

    private static void write(Path main, String directory, String name, String inside) throws IOException {
        String text = "public class " + name + " { public static void main(String[] args) { " + inside + " } }";
        Files.writeString(main.resolve(directory).resolve(name + ".java"), text);
    }

    private static void runsAll(String what, String shared, String own, int code)
            throws IOException, InterruptedException {
        Path main = project();
        write(main, "../shared/tests", "SomeRuns", shared);
        write(main, TESTS, "SomeTest", own);
        write(main, TESTS, "Helper", GOOD);
        Command ran = Command.run(main, all);
        Due.same(what + ": exit code, with " + ran.said(), ran.code(), code);
        says(what, ran, (shared.equals(GOOD) ? "passed: " : "FAILED: ") + "shared-SomeRuns", 1);
        says(what, ran, (own.equals(GOOD) ? "passed: " : "FAILED: ") + "SomeTest", 1);
        says(what, ran, "Helper", 0);
        says(what, ran, code == 0 ? "2 passed, 0 failed" : "1 passed, 1 failed", 1);
        remove(main);
    }

    private static void says(String what, Command ran, String line, int due) {
        Due.same(what + ": says " + line, ran.said().contains(line) ? 1 : 0, due);
    }

    private static void noSharedTest() throws IOException, InterruptedException {
        Path main = project();
        write(main, TESTS, "SomeTest", GOOD);
        Due.same("no shared test: exit code", Command.run(main, all).code(), 1);
        remove(main);
    }

    private static void runsOne() throws IOException, InterruptedException {
        Path main = project();
        Command copied = Command.run(Path.of("."), "cp " + TESTS + "/*.java " + main.resolve(TESTS));
        Due.same("copying the tests", copied.code(), 0);
        for (String line : one) {
            Command ran = Command.run(main, line);
            Due.same(line + ": exit code, with " + ran.said(), ran.code(), 0);
            if (line.startsWith("java ")) {
                says(line, ran, " asked, 0 wrong", 1);
            }
        }
        remove(main);
    }
}
