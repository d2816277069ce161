import java.io.IOException;
import java.nio.file.Files;
import java.nio.file.Path;
import java.util.ArrayList;
import java.util.List;
import java.util.regex.Matcher;
import java.util.regex.Pattern;

/** What LANGUAGE.md rules out and can be found by words; the path of WideCell.java is the argument. */
public final class LanguageTest {
    private static final String[] FORBIDDEN = {
        "package", "catch", "try", "finally", "synchronized", "assert", "volatile", "native", "transient", "protected",
        "equals", "hashCode", "toString", "getMessage", "getClass", "HashMap", "HashSet", "Object", "System",
        "Random", "Thread", "var", "super", "exit", "Exact",
    };
    private static final int MOST_CLASSES = 12;
    private static final int MOST_LINES = 60;

    private LanguageTest() {
    }

    public static void main(String[] args) throws IOException {
        String source = Files.readString(Path.of(args[0]));
        String code = withoutCommentsAndTexts(source);
        for (int i = 0; i < source.length(); i++) {
            if (source.charAt(i) > 126) {
                Check.same("signs are 1 to 127", "", source.substring(i, i + 1));
            }
        }
        for (String word : FORBIDDEN) {
            Check.fails("the word " + word, Pattern.compile("\\b" + word + "\\b").matcher(code).find());
        }
        Check.fails("a lambda", code.contains("->"));
        Check.fails("a method reference", code.contains("::"));
        Check.fails("an annotation", code.contains("@"));
        Check.same("imports", List.of("java.util.ArrayList", "java.util.Arrays"), found(code, "import ([\\w.]+);"));
        Check.same("what is thrown", List.of("IndexOutOfBoundsException(\"\")", "IllegalArgumentException(\"\")",
                "IllegalStateException(\"\")"), found(code, "throw new ([^;]+);"));
        Check.same("of the library's numbers", List.of("Integer.bitCount", "Math.max"),
                found(code, "\\b((?:Integer|Long|Math)\\.\\w+)"));
        Check.holds("classes", found(code, "\\b(class) ").size() <= MOST_CLASSES);
        Check.holds("methods are short", longestMethod(code) <= MOST_LINES);
        Check.end("LanguageTest");
    }

    private static String withoutCommentsAndTexts(String source) {
        return source.replaceAll("(?s)/\\*.*?\\*/", "").replaceAll("//[^\n]*", "").replaceAll("\"[^\"\n]*\"", "\"\"");
    }

    private static List<String> found(String code, String pattern) {
        List<String> all = new ArrayList<>();
        Matcher matcher = Pattern.compile(pattern).matcher(code);
        while (matcher.find()) {
            all.add(matcher.group(1));
        }
        return all;
    }

    /** A method begins and ends with a brace at an indentation of 4 or 8. */
    private static int longestMethod(String code) {
        int longest = 0;
        int begin = 0;
        String[] lines = code.split("\n");
        for (int i = 0; i < lines.length; i++) {
            if (lines[i].matches("( {4}| {8})[^ }].*\\{") && !lines[i].contains("class ")) {
                begin = i;
            }
            if (lines[i].matches("( {4}| {8})\\}") && begin > 0) {
                longest = Math.max(longest, i - begin + 1);
                begin = 0;
            }
        }
        return longest;
    }
}
