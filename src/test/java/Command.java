import java.io.IOException;
import java.nio.charset.StandardCharsets;
import java.nio.file.Path;

/** A command that has been run: its exit code, and all that it said. */
record Command(int code, String said) {
    static Command run(Path directory, String line) throws IOException, InterruptedException {
        Process process = new ProcessBuilder("bash", "-c", line).directory(directory.toFile())
                .redirectErrorStream(true).start();
        process.getOutputStream().close();
        String said = new String(process.getInputStream().readAllBytes(), StandardCharsets.UTF_8);
        return new Command(process.waitFor(), said);
    }
}
