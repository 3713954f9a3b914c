import java.io.IOException;
import java.nio.file.Files;
import java.nio.file.Path;
import java.nio.file.StandardCopyOption;
import java.util.stream.Stream;

/** .ci/run itself, on small projects: it runs each test of either kind, and fails if one fails. */
public final class CiRunTest {
    private static final Checks checks = new Checks();
    private static final String PASSES = "System.out.println(\"here is NAME\");";
    private static final String FAILS = PASSES + " System.exit(1);";
    private static final String THROWS = PASSES + " throw new IllegalStateException();";
    private static final String NO_JAVA = "this is none";

    public static void main(String[] args) throws IOException, InterruptedException {
        allPass();
        oneFails();
        noneUnderShared();
        checks.end();
    }

    /** A project of a class without calls, two tests of its own, a helper, and two tests under ../shared/tests. */
    private static Path project(String own, String shared) throws IOException {
        Path root = Files.createTempDirectory("cirun");
        Path main = root.resolve("main");
        Files.createDirectories(main.resolve(".ci"));
        Files.copy(Path.of(".ci/run"), main.resolve(".ci/run"), StandardCopyOption.COPY_ATTRIBUTES);
        Files.createDirectories(main.resolve("src/main/java"));
        Files.writeString(main.resolve("src/main/java/DockTurns.java"), "public final class DockTurns { }\n");
        Path tests = Files.createDirectories(main.resolve("src/test/java"));
        write(tests, "FirstTest", own);
        write(tests, "SecondTest", PASSES);
        write(tests, "Helper", FAILS);
        Path given = Files.createDirectories(root.resolve("shared/tests"));
        write(given, "FirstRuns", shared);
        write(given, "SecondRuns", PASSES);
        Files.createDirectories(root.resolve("temporary"));
        return root;
    }

    private static void write(Path directory, String name, String body) throws IOException {
        String program = "public final class " + name + " { public static void main(String[] args) { new DockTurns(); "
            + body.replace("NAME", name) + " } }\n";
        Files.writeString(directory.resolve(name + ".java"), program);
    }

    /** From a directory that is not the project's, as no place to stand is told for it. */
    private static Commands.Outcome run(Path root) throws IOException, InterruptedException {
        Path script = root.resolve("main/.ci/run");
        // By sh, as a machine may forbid that files of the moment are run by themselves.
        return Commands.run(root, root.resolve("temporary"), "sh", script.toString());
    }

    private static void dueRan(String when, Commands.Outcome outcome, String... names) {
        for (String name : names) {
            checks.due(when + ": " + name + " is run:\n" + outcome.told(),
                outcome.told().contains("here is " + name + "\n"), true);
        }
    }

    private static void dueNothingLeft(String when, Path root) throws IOException {
        try (Stream<Path> left = Files.list(root.resolve("temporary"))) {
            // The Java machine keeps figures of its own there while it runs.
            long many = left.filter(each -> !each.getFileName().toString().startsWith("hsperfdata")).count();
            checks.due(when + ": files left", many, 0);
        }
    }

    private static void allPass() throws IOException, InterruptedException {
        Path root = project(PASSES, PASSES);
        Commands.Outcome outcome = run(root);
        checks.due("all pass:\n" + outcome.told(), outcome.exit(), 0);
        dueRan("all pass", outcome, "FirstTest", "SecondTest", "FirstRuns", "SecondRuns");
        checks.due("a helper is no test", outcome.told().contains("here is Helper"), false);
        dueNothingLeft("all pass", root);
        Commands.removeTree(root);
    }

    private static void oneFails() throws IOException, InterruptedException {
        dueFailed("an own test ends with 1", FAILS, PASSES, "FirstTest", "SecondTest", "FirstRuns", "SecondRuns");
        dueFailed("an own test throws", THROWS, PASSES, "FirstTest", "SecondTest", "FirstRuns", "SecondRuns");
        dueFailed("an own test is no Java", NO_JAVA, PASSES);
        dueFailed("a shared test ends with 1", PASSES, FAILS, "FirstTest", "SecondTest", "FirstRuns", "SecondRuns");
        dueFailed("a shared test throws", PASSES, THROWS, "FirstTest", "SecondTest", "FirstRuns", "SecondRuns");
        dueFailed("a shared test is no Java", PASSES, NO_JAVA, "FirstTest", "SecondTest", "SecondRuns");
    }

    private static void dueFailed(String when, String own, String shared, String... ran)
            throws IOException, InterruptedException {
        Path root = project(own, shared);
        Commands.Outcome outcome = run(root);
        checks.due(when + ":\n" + outcome.told(), outcome.exit(), 1);
        dueRan(when, outcome, ran);
        dueNothingLeft(when, root);
        Commands.removeTree(root);
    }

    private static void noneUnderShared() throws IOException, InterruptedException {
        Path root = project(PASSES, PASSES);
        Commands.removeTree(root.resolve("shared"));
        Commands.Outcome outcome = run(root);
        checks.due("no ../shared/tests:\n" + outcome.told(), outcome.exit(), 1);
        Commands.removeTree(root);
    }
}
