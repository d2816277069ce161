import java.io.IOException;
import java.nio.file.Files;
import java.nio.file.Path;
import java.util.ArrayList;
import java.util.HashMap;
import java.util.List;
import java.util.Map;
import java.util.Set;
import java.util.TreeSet;
import java.util.regex.Matcher;
import java.util.regex.Pattern;
import java.util.stream.Collectors;
import java.util.stream.Stream;

/**
 * What README.md shows is so when it is tried. It runs in the project's folder; its arguments are the paths of
 * WideCell.java and of the document.
 */
public final class ReadmeTest {
    private static final Pattern CALL = Pattern.compile("(\\w+)\\(([\\w, ]*)\\)");
    private static final Pattern FACE = Pattern.compile(" +public (?:int|boolean) (\\w+\\(.*\\))(?: throws (.*))?;");
    private static final Pattern CONSTANT = Pattern.compile("\\b(\\w+) = (-?\\d+)");
    private static final Pattern SHOWN_CONSTANT = Pattern.compile("`([A-Z]+)`\\s\\((-?\\d+)");

    private final Readme readme = new Readme(Path.of("README.md"));
    private final List<String> document;
    private final Map<String, String> exceptions = new HashMap<>();
    private final Map<String, List<String>> ranges = new HashMap<>();

    private ReadmeTest(Path document) throws IOException {
        this.document = Files.readAllLines(document);
        for (List<String> row : readme.rowsUnder("Exceptions")) {
            exceptions.put(row.get(0), row.get(1));
        }
        for (List<String> row : readme.rowsUnder("Arguments")) {
            ranges.put(row.get(0), row.subList(2, 5));
        }
    }

    public static void main(String[] args) throws IOException, InterruptedException {
        ReadmeTest test = new ReadmeTest(Path.of(args[1]));
        test.constants();
        test.setsOfCopies();
        test.callsOfTheFace();
        test.rangesOfArguments();
        test.namesOfTests();
        ReadmeBlocks.check(test.readme.blocks(), Path.of(args[1]).toAbsolutePath().getParent());
        Check.end("ReadmeTest");
    }

    private void constants() {
        Set<String> due = new TreeSet<>();
        for (String line : document) {
            if (line.strip().startsWith("public static final int")) {
                addConstants(CONSTANT.matcher(line), due);
            }
        }
        Set<String> shown = new TreeSet<>();
        addConstants(SHOWN_CONSTANT.matcher(readme.text()), shown);
        Check.same("README.md has the constants", due, shown);
    }

    private static void addConstants(Matcher found, Set<String> constants) {
        while (found.find()) {
            constants.add(found.group(1) + " = " + found.group(2));
        }
    }

    private void setsOfCopies() {
        List<List<String>> rows = readme.rowsUnder("Sets of copies");
        Check.answers("README.md has all sets of copies", 8, rows.size());
        for (List<String> row : rows) {
            WideCell x = new WideCell();
            x.write(Integer.parseInt(row.get(0)), 3, 1, 42, 10, 0);
            String copies = Stream.of(0, 1, 2).filter(copy -> x.valueAt(copy, 3, 1) == 42).map(String::valueOf)
                    .collect(Collectors.joining(", "));
            Check.same("README.md, the set " + row.get(0), row.get(1), copies.isEmpty() ? "none" : copies);
            Check.answers("README.md, the set " + row.get(0) + ", at the ideal copy", 42, x.ideal(3, 1));
        }
    }

    /** Each call stands there with its arguments and exceptions, in the document's order. */
    private void callsOfTheFace() {
        List<String> due = new ArrayList<>();
        for (String line : document) {
            Matcher face = FACE.matcher(line);
            if (face.matches()) {
                due.add(face.group(1).replaceAll("\\b(int|boolean) ", "")
                        + (face.group(2) == null ? "" : " throws " + face.group(2)));
            }
        }
        List<String> shown = new ArrayList<>();
        for (List<String> row : readme.rowsUnder("Calls")) {
            String names = row.get(3).isEmpty() ? "" : " throws " + Stream.of(row.get(3).split(", "))
                    .map(name -> exceptions.getOrDefault(name, name)).collect(Collectors.joining(", "));
            shown.add(row.get(0) + names);
        }
        Check.same("README.md has the calls", due, shown);
    }

    /** Each argument of each call is taken at both ends of its range, and refused beside them. */
    private void rangesOfArguments() {
        for (List<String> row : readme.rowsUnder("Calls")) {
            Matcher call = CALL.matcher(row.get(0));
            if (call.matches() && !call.group(2).isEmpty()) {
                List<String> names = List.of(call.group(2).split(", "));
                for (int i = 0; i < names.size(); i++) {
                    rangeOf(call.group(1), names, i);
                }
            }
        }
    }

    private void rangeOf(String call, List<String> names, int tried) {
        String name = names.get(tried);
        List<String> range = ranges.getOrDefault(name, ranges.get(name + " of " + call));
        Check.holds("README.md has the range of " + name + " of " + call, range != null);
        if (range == null) {
            return;
        }
        int least = numberOf(range.get(0));
        int most = numberOf(range.get(1));
        outcome("nothing thrown", call, names, tried, least);
        outcome("nothing thrown", call, names, tried, most);
        if (!range.get(2).equals("-")) {
            String exception = exceptions.getOrDefault(range.get(2), range.get(2));
            outcome(exception, call, names, tried, least - 1);
            outcome(exception, call, names, tried, most + 1);
        }
    }

    private static int numberOf(String shown) {
        switch (shown) {
            case "false": return 0;
            case "true": return 1;
            case "2 to the power of level, less 1": return (1 << usualOf("level", "node")) - 1;
            default: return Integer.parseInt(shown);
        }
    }

    private static void outcome(String due, String call, List<String> names, int tried, int value) {
        int[] arguments = new int[names.size()];
        for (int i = 0; i < arguments.length; i++) {
            arguments[i] = i == tried ? value : usualOf(names.get(i), names.get(tried));
        }
        Calls made = Calls.valueOf(call.replaceAll("([A-Z])", "_$1").toUpperCase());
        Check.same("README.md, " + call + " with " + names.get(tried) + " " + value, due,
                Check.outcomeOf(() -> made.answer(new WideCell(), arguments)));
    }

    /** What is taken beside any value of the argument that is tried. */
    private static int usualOf(String name, String tried) {
        switch (name) {
            case "copy": return tried.equals("other") ? 1 : 0;
            case "other": case "ticks": return 1;
            case "to": return 15;
            case "level": return 2;
            default: return 0;
        }
    }

    private void namesOfTests() throws IOException {
        Set<String> due = new TreeSet<>();
        try (Stream<Path> files = Files.list(Path.of("src/test/java"))) {
            files.map(file -> file.getFileName().toString()).filter(name -> name.matches(".*(Test|Edges)\\.java"))
                    .forEach(name -> due.add(name.replace(".java", "")));
        }
        Set<String> shown = new TreeSet<>();
        readme.rowsUnder("What the tests look at").forEach(row -> shown.add(row.get(0)));
        Check.same("README.md names the tests", due, shown);
    }
}
