import java.io.IOException;
import java.lang.reflect.Method;
import java.lang.reflect.Modifier;
import java.nio.charset.StandardCharsets;
import java.nio.file.Files;
import java.nio.file.Path;
import java.nio.file.attribute.PosixFilePermission;
import java.util.ArrayList;
import java.util.List;
import java.util.Set;
import java.util.TreeSet;
import java.util.regex.Matcher;
import java.util.regex.Pattern;
import java.util.stream.Stream;

/** What README.md says of using the class and of running its tests is done as it is written there. */
public final class ReadmeTest {
    private static final Checks checks = new Checks();
    private static final Path README = Path.of("README.md");
    // .ci/run runs this very test, so this test can not run it again; CiRunTest holds what README says of it.
    private static final String WHOLE_RUN = ".ci/run";

    private record Block(String language, String text) {
    }

    public static void main(String[] args) throws IOException, InterruptedException {
        String readme = Files.readString(README, StandardCharsets.UTF_8);
        List<Block> blocks = blocks(readme);
        everyCallIsNamed(readme);
        everyTestIsNamed(readme);
        commandsDoAsTold(blocks);
        checks.end();
    }

    private static List<Block> blocks(String readme) {
        List<Block> all = new ArrayList<>();
        Matcher m = Pattern.compile("(?ms)^```(\\w+)\\n(.*?)^```$").matcher(readme);
        while (m.find()) {
            all.add(new Block(m.group(1), m.group(2)));
        }
        return all;
    }

    private static void everyCallIsNamed(String readme) {
        for (Method m : DockTurns.class.getDeclaredMethods()) {
            if (Modifier.isPublic(m.getModifiers())) {
                checks.due("a row of the table for " + m.getName() + "()",
                    Pattern.compile("(?m)^\\| `" + m.getName() + "\\(").matcher(readme).find(), true);
            }
        }
    }

    private static void everyTestIsNamed(String readme) throws IOException {
        Set<String> named = new TreeSet<>();
        Matcher m = Pattern.compile("(?m)^\\| `(\\w+Test)` \\|").matcher(readme);
        while (m.find()) {
            named.add(m.group(1));
        }
        Set<String> there = new TreeSet<>();
        try (Stream<Path> files = Files.list(Path.of("src/test/java"))) {
            for (Path file : files.toList()) {
                String name = file.getFileName().toString();
                if (name.endsWith("Test.java")) {
                    there.add(name.replace(".java", ""));
                }
            }
        }
        checks.due("tests named " + named + ", tests there " + there, named.equals(there), true);
    }

    /** In a copy of the project, so that what the commands leave there is taken away again. */
    private static void commandsDoAsTold(List<Block> blocks) throws IOException, InterruptedException {
        Path root = Files.createTempDirectory("readme");
        try {
            Path copy = Files.createDirectory(root.resolve("main"));
            Commands.copyTree(Path.of("src"), copy.resolve("src"));
            Files.createSymbolicLink(root.resolve("shared"), Path.of("../shared").toRealPath());
            int programs = 0;
            int commands = 0;
            int outputs = 0;
            for (int i = 0; i < blocks.size(); i++) {
                Block block = blocks.get(i);
                if (block.language.equals("java")) {
                    programs++;
                    writeProgram(copy, block.text);
                } else if (block.language.equals("sh")) {
                    commands++;
                    Block then = i + 1 < blocks.size() ? blocks.get(i + 1) : null;
                    boolean isAnswered = then != null && then.language.equals("text");
                    outputs += isAnswered ? 1 : 0;
                    runCommands(copy, block.text, isAnswered ? then.text : null);
                }
            }
            checks.due("programs", programs, 1);
            checks.due("blocks of commands", commands, 3);
            checks.due("blocks of commands with what they print", outputs, 1);
        } finally {
            Commands.removeTree(root);
        }
    }

    private static void writeProgram(Path copy, String program) throws IOException {
        Matcher m = Pattern.compile("public final class (\\w+) \\{").matcher(program);
        boolean isWhole = m.find();
        checks.due("a whole program: " + program, isWhole, true);
        if (isWhole) {
            Files.writeString(copy.resolve(m.group(1) + ".java"), program, StandardCharsets.UTF_8);
        }
    }

    private static void runCommands(Path copy, String commands, String printed) throws IOException, InterruptedException {
        if (commands.trim().equals(WHOLE_RUN)) {
            checks.due(WHOLE_RUN + " can be run",
                Files.getPosixFilePermissions(Path.of(WHOLE_RUN)).contains(PosixFilePermission.OWNER_EXECUTE), true);
            return;
        }
        Commands.Outcome outcome = Commands.run(copy, null, "sh", "-e", "-c", commands);
        checks.due("exit of\n" + commands + outcome.told() + "\n", outcome.exit(), 0);
        if (printed != null) {
            checks.due("what is printed by\n" + commands + outcome.told() + "\n", outcome.told().equals(printed), true);
        }
    }
}
