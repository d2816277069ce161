import java.util.ArrayList;
import java.util.EnumMap;
import java.util.List;
import java.util.Map;

/** Objects to begin with, each made the same at every time by at most 120 calls. */
enum Start {
    /** A new object. */
    NEW {
        void prepare(WideCell x) {
        }
    },

    /**
     * Time 20, grace 7, two repairs, five ranges. The copies 0 and 1 are up and differ, 2 is down and has hints; all
     * of them have what can be cleaned. The rows 14 and 15 are empty.
     */
    BUSY {
        void prepare(WideCell x) {
            for (int cell = 0; cell < 56; cell++) {
                int row = cell / 4;
                int column = cell % 4;
                x.write((row + 3 * column) % 8, row, column, 100 + cell, 10 + row, column == 3 ? 5 : 0);
            }
            x.deleteCell(3, 2, 1, 50);
            x.deleteCell(4, 4, 2, 60);
            x.deleteColumn(1, 2, 12);
            x.deleteColumn(4, 0, 11);
            x.deleteRow(2, 5, 40);
            x.deleteRange(3, 1, 2, 11);
            x.deleteRange(4, 6, 9, 30);
            x.deleteRange(0, 0, 0, 0);
            x.deleteRange(6, 12, 13, 8);
            x.pass(20);
            x.setGrace(7);
            x.deleteRow(1, 6, 200);
            x.deleteRange(1, 3, 11, 15);
            x.write(2, 7, 0, 5, 300, 50);
            x.read(0, 1, 8, 0);
            x.read(1, 2, 9, 1);
            x.setUp(2, false);
            x.write(4, 1, 1, 7, 400, 0);
            x.deleteRow(6, 10, 20);
            x.deleteRange(7, 6, 9, 35);
        }
    },

    /** Eight ranges were deleted, those of one row, 0 to 7. */
    FULL_OF_RANGES {
        void prepare(WideCell x) {
            for (int row = 0; row < 8; row++) {
                x.deleteRange(row, row, row, row);
            }
        }
    },

    /** The copy 2 is down and has 10 hints, of entries in the rows 0 to 9. */
    FULL_OF_HINTS {
        void prepare(WideCell x) {
            x.setUp(2, false);
            for (int row = 0; row < 10; row++) {
                x.write(7, row, 1, row, 5, 0);
            }
        }
    },

    /** The time is 9950. */
    LATE {
        void prepare(WideCell x) {
            x.write(7, 3, 1, 5, 5, 0);
            passTo(x, 9950);
        }
    },

    /** The time is 10000, the last that there is. */
    AT_THE_LAST_TIME {
        void prepare(WideCell x) {
            x.write(7, 3, 1, 5, 5, 0);
            passTo(x, 10000);
        }
    },

    /** All copies are down, and each has a hint. */
    ALL_DOWN {
        void prepare(WideCell x) {
            x.write(3, 3, 1, 5, 5, 0);
            x.deleteRow(6, 3, 5);
            x.setGrace(0);
            for (int copy = 0; copy < 3; copy++) {
                x.setUp(copy, false);
            }
            x.write(7, 0, 0, 1, 1, 0);
        }
    };

    private static final Map<Start, List<String>> SEEN = new EnumMap<>(Start.class);

    abstract void prepare(WideCell x);

    WideCell make() {
        WideCell x = new WideCell();
        prepare(x);
        return x;
    }

    /** What all questions of Snapshot show of it. */
    List<String> seen() {
        return SEEN.computeIfAbsent(this, start -> {
            List<String> answers = new ArrayList<>();
            for (Snapshot.Question question : Snapshot.ALL) {
                answers.add(question.ask(start.make()));
            }
            return answers;
        });
    }

    /** Lets time pass up to a time, by as few calls as that takes. */
    static void passTo(WideCell x, int time) {
        for (int now = x.time(); now < time; ) {
            now = x.pass(Math.min(100, time - now));
        }
    }
}
