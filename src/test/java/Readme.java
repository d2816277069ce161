import java.io.IOException;
import java.nio.file.Files;
import java.nio.file.Path;
import java.util.ArrayList;
import java.util.List;

/** README.md, as its tables and its blocks of code. */
final class Readme {
    /** The language stands behind the three signs that begin the block. */
    record Block(String language, List<String> lines) {
    }

    private record Row(String heading, List<String> cells) {
    }

    private final List<Row> rows = new ArrayList<>();
    private final List<Block> blocks = new ArrayList<>();
    private final String text;

    Readme(Path file) throws IOException {
        text = Files.readString(file);
        String heading = "";
        boolean isCode = false;
        for (String line : text.split("\n")) {
            if (line.startsWith("```")) {
                isCode = !isCode;
                if (isCode) {
                    blocks.add(new Block(line.substring(3), new ArrayList<>()));
                }
            } else if (isCode) {
                blocks.get(blocks.size() - 1).lines.add(line);
            } else if (line.startsWith("#")) {
                heading = line.replaceAll("^#+ ", "");
            } else if (line.startsWith("| --- |")) {
                // What stands above this line is the head of a table.
                rows.remove(rows.size() - 1);
            } else if (line.startsWith("|")) {
                rows.add(new Row(heading, cellsOf(line)));
            }
        }
    }

    private static List<String> cellsOf(String line) {
        List<String> cells = new ArrayList<>();
        for (String cell : line.substring(1, line.lastIndexOf('|')).split("\\|", -1)) {
            cells.add(cell.replace("`", "").strip());
        }
        return cells;
    }

    String text() {
        return text;
    }

    /** The rows of all tables under a heading, without the signs of code. */
    List<List<String>> rowsUnder(String heading) {
        return rows.stream().filter(row -> row.heading.equals(heading)).map(Row::cells).toList();
    }

    List<Block> blocks() {
        return blocks;
    }
}
