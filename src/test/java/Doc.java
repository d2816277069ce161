import java.io.IOException;
import java.nio.file.Files;
import java.nio.file.Path;
import java.util.ArrayList;
import java.util.LinkedHashMap;
import java.util.List;
import java.util.Map;

/** The sentences of the document: which of them the tests are about, and which of them no test is about. */
final class Doc {
    /** What names no boundary case, by how it begins; and the summary, as the terms say the same exactly. */
    private static final String[] WITHOUT_EDGE = {
        "A sparse table that is kept in three copies:",
        "Tombstones go after a time of grace.",
        "Ahead of the calls `",
        "How the state is held inside the object is free,",
        "Use of one object from several threads at once",
        "Nothing is promised beyond the answers",
        "Writes a cell.", "Lets time pass.", "Sets the grace.",
    };

    private static final Map<String, List<String>> CITED = new LinkedHashMap<>();
    private static int citations = 0;

    private Doc() {
    }

    /** The first line of each test about a sentence, or a part of one: where it stands, and its words. */
    static void says(String section, String words) {
        CITED.computeIfAbsent(section, s -> new ArrayList<>()).add(words);
        citations++;
        Check.about(section + " says \"" + words + "\": ");
    }

    static int citations() {
        return citations;
    }

    /** Each sentence that is tested stands in the document, and each one of the document is tested. */
    static void checkAgainst(Path document) throws IOException {
        Check.about("the document: ");
        Map<String, List<String>> sentences = sentencesOf(Files.readAllLines(document));
        for (String section : CITED.keySet()) {
            String all = String.join("\n", sentences.getOrDefault(section, List.of()));
            for (String words : CITED.get(section)) {
                Check.holds("it says under " + section + ": " + words, all.contains(words));
            }
        }
        for (String section : sentences.keySet()) {
            for (String sentence : sentences.get(section)) {
                Check.holds("there is a test, under " + section + ", for: " + sentence, isTested(section, sentence));
            }
        }
    }

    private static boolean isTested(String section, String sentence) {
        for (String beginning : WITHOUT_EDGE) {
            if (sentence.startsWith(beginning)) {
                return true;
            }
        }
        return CITED.getOrDefault(section, List.of()).stream().anyMatch(sentence::contains);
    }

    private static Map<String, List<String>> sentencesOf(List<String> lines) {
        Map<String, List<String>> sentences = new LinkedHashMap<>();
        String section = "";
        boolean isCode = false;
        for (String line : lines) {
            if (line.startsWith("```")) {
                isCode = !isCode;
            } else if (line.startsWith("#")) {
                section = line.replaceAll("^#+ ", "").replaceAll("^(Promise \\d+): .*", "$1");
            } else if (!isCode && !line.isBlank()) {
                sentences.computeIfAbsent(section, s -> new ArrayList<>()).addAll(sentencesIn(line));
            }
        }
        return sentences;
    }

    /** The sentences of a paragraph; a member of a list is one, and a method's head is none. */
    private static List<String> sentencesIn(String line) {
        if (line.startsWith("- ")) {
            return List.of(line.substring(2));
        }
        return List.of(line.replaceAll("^`[^`]*\\)[^`]*`: ", "").split("(?<=\\.\\)?) (?=[A-Z(])"));
    }
}
