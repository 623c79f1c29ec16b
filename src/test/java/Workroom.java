import java.io.IOException;
import java.nio.charset.StandardCharsets;
import java.nio.file.Files;
import java.nio.file.Path;
import java.nio.file.StandardCopyOption;
import java.util.Comparator;
import java.util.List;
import java.util.stream.Collectors;
import java.util.stream.Stream;

/**
 * A new directory with a project and what is shared beside it, so that commands can be followed as in
 * a fresh checkout and leave nothing behind.
 */
final class Workroom implements AutoCloseable {

    /** What a command printed, and its exit code. */
    static final class Outcome {
        final int exit;
        final String printed;

        Outcome(int exit, String printed) {
            this.exit = exit;
            this.printed = printed;
        }

        String lastLine() {
            List<String> lines = printed.lines().collect(Collectors.toList());
            return lines.isEmpty() ? "" : lines.get(lines.size() - 1);
        }
    }

    private final Path root;
    private final Path project;

    Workroom() throws IOException {
        root = Files.createTempDirectory("deltanights");
        project = Files.createDirectory(root.resolve("main"));
    }

    /** Copies a file or a directory of this project to the same place of the new one. */
    Workroom copy(String name) throws IOException {
        try (Stream<Path> found = Files.walk(Path.of(name))) {
            for (Path from : found.collect(Collectors.toList())) {
                Path to = project.resolve(from);
                if (Files.isDirectory(from)) {
                    Files.createDirectories(to);
                } else {
                    Files.createDirectories(to.getParent());
                    Files.copy(from, to, StandardCopyOption.COPY_ATTRIBUTES);
                }
            }
        }
        return this;
    }

    /** Writes a file at a place that is told from the new project on. */
    Workroom write(String name, String text) throws IOException {
        Path to = project.resolve(name).normalize();
        Files.createDirectories(to.getParent());
        Files.writeString(to, text);
        return this;
    }

    Outcome run(String command) throws IOException {
        Process process = new ProcessBuilder("bash", "-e", "-c", command).directory(project.toFile())
                .redirectErrorStream(true).start();
        process.getOutputStream().close();
        byte[] printed = process.getInputStream().readAllBytes();
        try {
            return new Outcome(process.waitFor(), new String(printed, StandardCharsets.UTF_8));
        } catch (InterruptedException e) {
            throw new IllegalStateException(e);
        }
    }

    @Override
    public void close() throws IOException {
        try (Stream<Path> found = Files.walk(root)) {
            for (Path path : found.sorted(Comparator.reverseOrder()).collect(Collectors.toList())) {
                Files.delete(path);
            }
        }
    }
}
