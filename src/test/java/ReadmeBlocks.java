import java.io.IOException;
import java.nio.file.Files;
import java.nio.file.Path;
import java.util.Comparator;
import java.util.List;
import java.util.concurrent.TimeUnit;
import java.util.regex.Matcher;
import java.util.regex.Pattern;
import java.util.stream.Stream;

/**
 * The blocks of code in README.md: a program is kept as a file, the commands behind it must print what its comments
 * say, and all other commands must end well. The commands run in a folder that only looks like the project's.
 */
final class ReadmeBlocks {
    private static final Pattern CLASS = Pattern.compile("public final class (\\w+) \\{");
    private static final Pattern PRINTS = Pattern.compile(".* // prints (.*)");
    private static final int MOST_MINUTES = 5;

    private final Path folder;
    private String due = "";

    private ReadmeBlocks(Path folder) {
        this.folder = folder;
    }

    static void check(List<Readme.Block> blocks, Path shared) throws IOException, InterruptedException {
        Path work = Files.createTempDirectory("readme");
        try {
            Path folder = Files.createDirectory(work.resolve("main"));
            Files.createSymbolicLink(folder.resolve("src"), Path.of("src").toAbsolutePath());
            Files.createSymbolicLink(work.resolve("shared"), shared);
            ReadmeBlocks all = new ReadmeBlocks(folder);
            for (Readme.Block block : blocks) {
                all.checkOne(block);
            }
            Check.same("README.md runs all its programs", "", all.due);
        } finally {
            deleteAll(work);
        }
    }

    private void checkOne(Readme.Block block) throws IOException, InterruptedException {
        if (block.language().equals("java")) {
            keepProgram(block.lines());
        } else if (block.lines().get(0).startsWith(".ci/")) {
            // The tests run inside of it, so that it can't be run here once more.
            Check.holds("README.md, a script " + block.lines(), Files.isExecutable(Path.of(block.lines().get(0))));
        } else {
            runCommands(block.lines());
        }
    }

    private void keepProgram(List<String> lines) throws IOException {
        Matcher name = CLASS.matcher(lines.get(0));
        Check.holds("README.md, a program begins with its class: " + lines.get(0), name.matches());
        if (!name.matches()) {
            return;
        }
        Files.write(folder.resolve(name.group(1) + ".java"), lines);
        StringBuilder prints = new StringBuilder();
        for (String line : lines) {
            Matcher print = PRINTS.matcher(line);
            Check.same("README.md, what is printed is told: " + line, line.contains(".print"), print.matches());
            if (print.matches()) {
                prints.append(print.group(1)).append('\n');
            }
        }
        due = prints.toString();
    }

    private void runCommands(List<String> commands) throws IOException, InterruptedException {
        // Java may say something of its own on the other stream, which no program here prints on.
        Path out = folder.resolve("printed.txt");
        Path faults = folder.resolve("faults.txt");
        Process process = new ProcessBuilder("sh", "-e", "-c", String.join("\n", commands)).directory(folder.toFile())
                .redirectOutput(out.toFile()).redirectError(faults.toFile()).start();
        if (!process.waitFor(MOST_MINUTES, TimeUnit.MINUTES)) {
            process.destroy();
        }
        String printed = Files.readString(out);
        if (!due.isEmpty()) {
            Check.same("README.md, printed by " + commands, due, printed);
            due = "";
        }
        int exit = process.waitFor();
        String said = exit == 0 ? "" : ":\n" + printed + Files.readString(faults);
        Check.same("README.md, " + commands + " ends well" + said, 0, exit);
    }

    /** What a link leads to is left alone. */
    private static void deleteAll(Path work) throws IOException {
        List<Path> all;
        try (Stream<Path> found = Files.walk(work)) {
            all = found.sorted(Comparator.reverseOrder()).toList();
        }
        for (Path path : all) {
            Files.delete(path);
        }
    }
}
