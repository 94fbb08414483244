import java.io.IOException;
import java.lang.reflect.Method;
import java.lang.reflect.Modifier;
import java.nio.file.Files;
import java.nio.file.Path;
import java.util.ArrayList;
import java.util.List;
import java.util.TreeSet;
import java.util.regex.Matcher;
import java.util.regex.Pattern;
import java.util.stream.Stream;

/** README.md: its examples answer as it says, and its tables leave nothing out. */
public final class ReadmeTest {
    private static final Pattern CALL = Pattern.compile("int (\\w+) = press\\.\\w+\\(.*\\); +// (NONE|-?\\d+)\\b.*");
    private static final Pattern NO_ANSWER = Pattern.compile(
            "RotationPress press = new RotationPress\\(\\);|press\\.end\\(\\d+\\); +// \\D.*");

    public static void main(String[] args) throws IOException, InterruptedException {
        examples();
        tables();
        Due.finish();
    }

    /** All examples are one program, as a reader would copy it; behind each call comes its answer. */
    private static void examples() throws IOException, InterruptedException {
        List<String> program = new ArrayList<>(List.of("class Example {", "public static void main(String[] args) {"));
        List<String> calls = new ArrayList<>();
        List<Integer> due = new ArrayList<>();
        for (List<String> block : Readme.blocks("java")) {
            for (String line : block) {
                program.add(line);
                Matcher call = CALL.matcher(line);
                if (call.matches()) {
                    program.add("System.out.println(" + call.group(1) + ");");
                    calls.add(line);
                    due.add(call.group(2).equals("NONE") ? RotationPress.NONE : Integer.parseInt(call.group(2)));
                } else {
                    Due.same("a line that tells its answer: " + line, NO_ANSWER.matcher(line).matches() ? 1 : 0, 1);
                }
            }
        }
        program.addAll(List.of("}", "}"));
        List<String> got = answers(program);
        Due.same("answers of the example: " + got, got.size(), due.size());
        for (int n = 0; n < Math.min(got.size(), due.size()); n++) {
            Due.same(calls.get(n), Integer.parseInt(got.get(n)), due.get(n));
        }
        for (String name : face()) {
            boolean shown = String.join("\n", program).contains("press." + name + "(");
            Due.same(name + " is in the examples", shown ? 1 : 0, 1);
        }
    }

    private static List<String> answers(List<String> program) throws IOException, InterruptedException {
        Path room = Files.createTempDirectory("readme");
        Path file = room.resolve("Example.java");
        Files.write(file, program);
        Command made = Command.run(Path.of("."), "javac --release 17 -d " + room + " " + file
                + " src/main/java/RotationPress.java && java -cp " + room + " Example");
        Command.run(Path.of("."), "rm -r " + room);
        Due.same("the example's exit code, with " + made.said(), made.code(), 0);
        return made.code() == 0 ? made.said().lines().toList() : List.of();
    }

    private static TreeSet<String> face() {
        TreeSet<String> names = new TreeSet<>();
        for (Method method : RotationPress.class.getDeclaredMethods()) {
            if (Modifier.isPublic(method.getModifiers())) {
                names.add(method.getName());
            }
        }
        return names;
    }

    private static void tables() throws IOException {
        TreeSet<String> due = face();
        String text = String.join("\n", Readme.lines());
        try (Stream<Path> files = Files.list(Path.of("src/test/java"))) {
            for (Path file : files.toList()) {
                String name = file.getFileName().toString().replace(".java", "");
                if (name.endsWith("Test")) {
                    due.add(name);
                } else {
                    Due.same(name + " is named", text.contains("`" + name + "`") ? 1 : 0, 1);
                }
            }
        }
        TreeSet<String> got = new TreeSet<>(Readme.firstColumns());
        Due.same("README's tables have " + got + ", due are " + due + ": ", got.equals(due) ? 1 : 0, 1);
    }
}
