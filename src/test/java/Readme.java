import java.io.IOException;
import java.nio.file.Files;
import java.nio.file.Path;
import java.util.ArrayList;
import java.util.List;

/** README.md, as it stands in the directory in which the tests run. */
final class Readme {
    private static final String FENCE = "```";

    private Readme() { }

    static List<String> lines() throws IOException {
        return Files.readAllLines(Path.of("README.md"));
    }

    /** The lines of all blocks of this language, each block by itself. */
    static List<List<String>> blocks(String language) throws IOException {
        List<List<String>> blocks = new ArrayList<>();
        List<String> open = null;
        for (String line : lines()) {
            if (line.startsWith(FENCE)) {
                boolean opens = open == null;
                open = opens ? new ArrayList<>() : null;
                if (opens && line.equals(FENCE + language)) {
                    blocks.add(open);
                }
            } else if (open != null) {
                open.add(line);
            }
        }
        return blocks;
    }

    /** What stands between backticks in the first column of all tables, but for the arguments. */
    static List<String> firstColumns() throws IOException {
        List<String> names = new ArrayList<>();
        for (String line : lines()) {
            if (line.startsWith("| `")) {
                names.add(line.substring(3, line.indexOf('`', 3)).replaceAll("\\(.*", ""));
            }
        }
        return names;
    }
}
