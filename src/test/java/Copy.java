import java.io.IOException;
import java.nio.file.Files;
import java.nio.file.Path;
import java.nio.file.StandardCopyOption;
import java.util.ArrayList;
import java.util.Comparator;
import java.util.List;
import java.util.stream.Stream;

/** A copy of the project with ../shared beside it, in which commands are run; it is gone when it is closed. */
final class Copy implements AutoCloseable {
    /** A .ci/run inside a copy leaves out the tests that make copies: they would never end. */
    private static final String INSIDE = "DEBTTABLE_INSIDE_A_COPY";

    final Path room;
    final Path project;
    final Path shared;
    private String printed = "";

    Copy() throws IOException {
        room = Files.createTempDirectory("debttable");
        project = room.resolve("main");
        shared = room.resolve("shared");
        Files.createDirectory(project);
        Files.createDirectory(shared);
        for (String part : List.of(".ci", "src", "README.md")) {
            copy(Path.of(part), project.resolve(part));
        }
        copy(Path.of("../shared/tests").toRealPath(), shared.resolve("tests"));
    }

    static boolean isInsideOne() {
        return System.getenv(INSIDE) != null;
    }

    static void copy(Path from, Path to) throws IOException {
        for (Path path : all(from)) {
            Path there = to.resolve(from.relativize(path).toString());
            if (Files.isDirectory(path)) {
                Files.createDirectories(there);
            } else {
                Files.createDirectories(there.getParent());
                Files.copy(path, there, StandardCopyOption.COPY_ATTRIBUTES);
            }
        }
    }

    static void delete(Path from) throws IOException {
        List<Path> paths = all(from);
        paths.sort(Comparator.reverseOrder());
        for (Path path : paths) {
            Files.delete(path);
        }
    }

    private static List<Path> all(Path from) throws IOException {
        try (Stream<Path> walk = Files.walk(from)) {
            return new ArrayList<>(walk.toList());
        }
    }

    /** Runs commands of a shell in the project's folder: their exit code. */
    int run(String commands) throws IOException, InterruptedException {
        ProcessBuilder builder = new ProcessBuilder("bash", "-e", "-c", commands);
        builder.directory(project.toFile());
        builder.environment().put(INSIDE, "1");
        builder.redirectErrorStream(true);
        Process process = builder.start();
        process.getOutputStream().close();
        printed = new String(process.getInputStream().readAllBytes());
        return process.waitFor();
    }

    /** What the latest commands printed. */
    String printed() {
        return printed;
    }

    @Override
    public void close() throws IOException {
        delete(room);
    }
}
