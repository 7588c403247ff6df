import java.io.File;
import java.io.IOException;
import java.nio.file.Files;
import java.nio.file.Path;
import java.util.Comparator;
import java.util.List;
import java.util.stream.Collectors;
import java.util.stream.Stream;

/** A folder of its own in which a test puts files and runs commands. */
final class Folder {
    private final Path root;
    private final Path output;

    Folder() throws IOException {
        root = Files.createTempDirectory("soundstream");
        output = Files.createTempFile("soundstream", ".txt");
    }

    Path path(String name) {
        return root.resolve(name);
    }

    void put(String name, String text) throws IOException {
        Files.createDirectories(path(name).getParent());
        Files.writeString(path(name), text);
    }

    /** Runs a shell's commands; answers their exit code. */
    int run(String commands) throws IOException, InterruptedException {
        ProcessBuilder shell = new ProcessBuilder("sh", "-c", commands);
        shell.directory(root.toFile());
        shell.redirectErrorStream(true);
        shell.redirectInput(new File("/dev/null"));
        shell.redirectOutput(output.toFile());
        return shell.start().waitFor();
    }

    /** What the last commands printed. */
    String printed() throws IOException {
        return Files.readString(output);
    }

    void remove() throws IOException {
        List<Path> all;
        try (Stream<Path> files = Files.walk(root)) {
            all = files.sorted(Comparator.reverseOrder()).collect(Collectors.toList());
        }
        for (Path each : all) {
            Files.delete(each);
        }
        Files.delete(output);
    }
}
