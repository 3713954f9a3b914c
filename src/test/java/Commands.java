import java.io.IOException;
import java.nio.charset.StandardCharsets;
import java.nio.file.Files;
import java.nio.file.Path;
import java.util.Comparator;
import java.util.List;
import java.util.stream.Stream;

/** Runs commands in a directory, and makes and takes away such directories. */
final class Commands {
    record Outcome(int exit, String told) {
    }

    private Commands() {
    }

    /** What is said on either stream comes as one text; the directory for files of the moment may be null. */
    static Outcome run(Path directory, Path temporary, String... command) throws IOException, InterruptedException {
        ProcessBuilder builder = new ProcessBuilder(command).directory(directory.toFile()).redirectErrorStream(true);
        if (temporary != null) {
            builder.environment().put("TMPDIR", temporary.toString());
        }
        Process process = builder.start();
        process.getOutputStream().close();
        String told = new String(process.getInputStream().readAllBytes(), StandardCharsets.UTF_8);
        return new Outcome(process.waitFor(), told);
    }

    private static List<Path> tree(Path root) throws IOException {
        try (Stream<Path> all = Files.walk(root)) {
            return all.sorted().toList();
        }
    }

    static void copyTree(Path from, Path to) throws IOException {
        for (Path each : tree(from)) {
            Files.copy(each, to.resolve(from.relativize(each).toString()));
        }
    }

    static void removeTree(Path root) throws IOException {
        for (Path each : tree(root).stream().sorted(Comparator.reverseOrder()).toList()) {
            Files.delete(each);
        }
    }
}
