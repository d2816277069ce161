import java.io.File;
import java.io.IOException;
import java.nio.file.Files;
import java.nio.file.Path;
import java.util.ArrayList;
import java.util.List;
import java.util.concurrent.Callable;
import java.util.concurrent.ExecutorService;
import java.util.concurrent.Executors;
import java.util.concurrent.Future;
import javax.tools.ToolProvider;

/**
 * A test of EdgesTest: breaks WideCell.java in each of the ways that breaks.txt tells, and looks whether the test of
 * the sentence that is broken fails. Its arguments are breaks.txt, WideCell.java, the folder of the compiled tests,
 * the document, and an empty folder to work in.
 */
public final class BreaksRun {
    /** What stands in the program, and what it is broken to. */
    private record Change(StringBuilder from, StringBuilder to) {
    }

    private record Break(int number, String section, String words, List<Change> changes) {
    }

    private final String source;
    private final String tests;
    private final String document;
    private final Path work;

    private BreaksRun(String[] args) throws IOException {
        source = Files.readString(Path.of(args[1])).replaceAll("(?m)^ +", "");
        tests = args[2];
        document = args[3];
        work = Path.of(args[4]);
    }

    public static void main(String[] args) throws Exception {
        BreaksRun run = new BreaksRun(args);
        List<Callable<String>> calls = new ArrayList<>();
        for (Break one : breaksIn(Files.readAllLines(Path.of(args[0])))) {
            calls.add(() -> run.faultOf(one));
        }
        ExecutorService threads = Executors.newFixedThreadPool(Runtime.getRuntime().availableProcessors());
        int faults = 0;
        for (Future<String> fault : threads.invokeAll(calls)) {
            if (!fault.get().isEmpty()) {
                System.out.println(fault.get());
                faults++;
            }
        }
        threads.shutdown();
        System.out.println(calls.size() + " breaks, " + faults + " that the sentence's own test does not find");
        System.exit(faults == 0 && !calls.isEmpty() ? 0 : 1);
    }

    private static List<Break> breaksIn(List<String> lines) {
        List<Break> breaks = new ArrayList<>();
        boolean wasTo = true;
        for (String line : lines) {
            if (line.startsWith("= ")) {
                String[] parts = line.substring(2).split(" \\| ", 2);
                breaks.add(new Break(breaks.size() + 1, parts[0], parts[1], new ArrayList<>()));
                wasTo = true;
            } else if (line.startsWith("-") || line.startsWith("+")) {
                boolean isTo = line.startsWith("+");
                List<Change> changes = breaks.get(breaks.size() - 1).changes;
                if (wasTo && !isTo) {
                    changes.add(new Change(new StringBuilder(), new StringBuilder()));
                }
                Change change = changes.get(changes.size() - 1);
                StringBuilder text = isTo ? change.to : change.from;
                text.append(text.length() > 0 ? "\n" : "").append(line.length() > 2 ? line.substring(2) : "");
                wasTo = isTo;
            }
        }
        return breaks;
    }

    /** Empty if the right test fails. */
    private String faultOf(Break one) throws IOException, InterruptedException {
        String name = "break " + one.number + ", " + one.section + " | " + one.words + ": ";
        String broken = source;
        for (Change change : one.changes) {
            String from = change.from.toString();
            int at = broken.indexOf(from);
            if (at < 0 || broken.indexOf(from, at + 1) >= 0) {
                return name + "does not stand just once in the program: " + from;
            }
            broken = broken.substring(0, at) + change.to + broken.substring(at + from.length());
        }
        Path folder = Files.createDirectory(work.resolve("break" + one.number));
        Path file = Files.writeString(folder.resolve("WideCell.java"), broken);
        if (ToolProvider.getSystemJavaCompiler().run(null, null, null, "-d", folder.toString(), file.toString()) != 0) {
            return name + "is no Java";
        }
        String printed = printedByTests(folder);
        if (printed.contains("FAILED " + one.section + " says \"" + one.words + "\": ")) {
            return "";
        }
        String beginning = printed.substring(0, Math.min(600, printed.length()));
        return name + "its test does not fail; printed was:\n" + beginning;
    }

    private String printedByTests(Path folder) throws IOException, InterruptedException {
        Path out = folder.resolve("out.txt");
        String path = folder + File.pathSeparator + tests;
        Process process = new ProcessBuilder("java", "-XX:TieredStopAtLevel=1", "-cp", path, "EdgesTest", "", document)
                .redirectErrorStream(true).redirectOutput(out.toFile()).start();
        process.waitFor();
        return Files.readString(out);
    }
}
