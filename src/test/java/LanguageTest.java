import java.io.IOException;
import java.nio.file.Files;
import java.nio.file.Path;
import java.util.ArrayList;
import java.util.List;
import java.util.regex.Matcher;
import java.util.regex.Pattern;

/** What LANGUAGE.md rules out and can be found by words; the path of WideCell.java is the argument. */
public final class LanguageTest {
    private static final String[] FORBIDDEN = {
        "package", "finally", "synchronized", "assert", "volatile", "native", "transient", "protected", "hashCode",
        "getMessage", "printStackTrace", "getClass", "HashMap", "HashSet", "Object", "Random", "Thread", "exit",
        "nanoTime", "currentTimeMillis", "identityHashCode", "\\w+Exact",
    };
    // Nothing that the machine throws is caught, neither by its own name nor by a class above it.
    private static final String[] MACHINE = {
        "Throwable", "Exception", "Error", "ArrayIndexOutOfBoundsException", "NullPointerException",
        "ClassCastException", "NegativeArraySizeException", "ArrayStoreException", "StackOverflowError",
    };
    private static final List<String> IMPORTS = List.of("java.util.ArrayList", "java.util.List", "java.util.Arrays",
            "java.util.Iterator", "java.util.NoSuchElementException");
    private static final List<String> THROWN = List.of("new IllegalStateException", "new IllegalArgumentException",
            "new IndexOutOfBoundsException", "new ArithmeticException", "new UnsupportedOperationException",
            "new NoSuchElementException", "new RuntimeException");
    private static final int MOST_CLASSES = 12;
    private static final int MOST_LINES = 60;
    private static final int MOST_PARAMETERS = 7;

    private LanguageTest() {
    }

    public static void main(String[] args) throws IOException {
        String source = Files.readString(Path.of(args[0]));
        String code = withoutCommentsAndTexts(source);
        for (int i = 0; i < source.length(); i++) {
            if (source.charAt(i) > 126) {
                Check.same("signs are 1 to 127", "", source.substring(i, i + 1));
            }
        }
        words(code);
        library(code);
        sizes(code);
        Check.end("LanguageTest");
    }

    private static void words(String code) {
        for (String word : FORBIDDEN) {
            Check.fails("the word " + word, Pattern.compile("\\b" + word + "\\b").matcher(code).find());
        }
        for (String name : MACHINE) {
            Check.fails("the machine's " + name, Pattern.compile("\\b" + name + "\\b").matcher(code).find());
        }
        for (String line : code.split("\n")) {
            boolean isCase = line.strip().startsWith("case ") || line.strip().startsWith("default ");
            Check.fails("a lambda in " + line, line.contains("->") && !isCase);
        }
        Check.fails("a method reference", code.contains("::"));
        allAmong("what is thrown", THROWN, found(code, "\\bthrow\\s+(new \\w+|\\w+)"));
    }

    private static void library(String code) {
        allAmong("imports", IMPORTS, found(code, "import ([\\w.*]+);"));
        allAmong("of System", List.of("arraycopy"), found(code, "\\bSystem\\.(\\w+)"));
        allAmong("of Arrays", List.of("copyOf", "copyOfRange", "fill"), found(code, "\\bArrays\\.(\\w+)\\("));
        allAmong("static fields are final", List.of(), found(code, "\\bstatic (?!final\\b)([\\w\\[\\]]+ \\w+) *[=;]"));
    }

    private static void sizes(String code) {
        int classes = found(code, "\\b(class|interface|enum|record) \\w+").size();
        Check.holds("classes: " + classes, classes <= MOST_CLASSES);
        Check.holds("methods are short: " + longestMethod(code), longestMethod(code) <= MOST_LINES);
        for (String parameters : found(code, "\\w+ \\w+\\(([\\w\\[\\], \n]*)\\)[\\w, \n]*\\{")) {
            Check.holds("parameters: " + parameters, parameters.split(",").length <= MOST_PARAMETERS);
        }
    }

    private static void allAmong(String what, List<String> allowed, List<String> found) {
        for (String one : found) {
            Check.holds(what + ": " + one, allowed.contains(one));
        }
    }

    private static String withoutCommentsAndTexts(String source) {
        return source.replaceAll("(?s)/\\*.*?\\*/", "").replaceAll("//[^\n]*", "").replaceAll("\"[^\"\n]*\"", "\"\"");
    }

    private static List<String> found(String code, String pattern) {
        List<String> all = new ArrayList<>();
        Matcher matcher = Pattern.compile(pattern).matcher(code);
        while (matcher.find()) {
            all.add(matcher.group(1));
        }
        return all;
    }

    /** A method begins and ends with a brace at an indentation of 4 or 8. */
    private static int longestMethod(String code) {
        int longest = 0;
        int begin = 0;
        String[] lines = code.split("\n");
        for (int i = 0; i < lines.length; i++) {
            if (lines[i].matches("( {4}| {8})[^ }].*\\{") && !lines[i].contains("class ")) {
                begin = i;
            }
            if (lines[i].matches("( {4}| {8})\\}") && begin > 0) {
                longest = Math.max(longest, i - begin + 1);
                begin = 0;
            }
        }
        return longest;
    }
}
