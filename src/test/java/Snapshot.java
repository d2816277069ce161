import java.util.List;

/**
 * What can be seen of an object, so that two objects can be compared in a text. An object answers 512 calls, so
 * that one alone can't be asked everything: each question here takes under 400 calls, and may change the object.
 */
final class Snapshot {
    /** A question to an object that is not used any more behind it. */
    interface Question {
        String ask(WideCell x);
    }

    static final List<Question> ALL = List.of(Snapshot::of, Snapshot::cells, Snapshot::coversAndNodes,
            Snapshot::hintsAsTheyAreTaken, Snapshot::rangesThatCanBeDeleted, Snapshot::idealWithMoreWritten);

    private Snapshot() {
    }

    /** A little of everything, in some 190 calls; of these only the grace is set, to 10. */
    static String of(WideCell x) {
        StringBuilder text = new StringBuilder();
        text.append("time ").append(x.time()).append(" repairs ").append(x.repairs());
        for (int copy = 0; copy < 3; copy++) {
            text.append("\ncopy ").append(copy).append(x.isUp(copy) ? " up" : " down");
            text.append(" hints ").append(x.hints(copy));
            counts(x, copy, text);
            text.append(" column 1");
            for (int row = 0; row < 16; row++) {
                text.append(' ').append(x.valueAt(copy, row, 1));
            }
        }
        text.append("\nideal");
        ideal(x, text);
        return text.append("\ngrace ").append(x.setGrace(10)).toString();
    }

    private static void counts(WideCell x, int copy, StringBuilder text) {
        text.append(" entries ").append(x.entries(copy)).append(" tombstones");
        for (int reach = WideCell.CELL; reach <= WideCell.RANGE; reach++) {
            text.append(' ').append(x.tombstones(copy, reach));
        }
        text.append(" sums");
        for (int row = 0; row < 16; row++) {
            text.append(' ').append(x.sumOf(copy, 4, row));
        }
    }

    private static void ideal(WideCell x, StringBuilder text) {
        for (int row = 0; row < 16; row++) {
            for (int column = 0; column < 4; column++) {
                text.append(' ').append(x.ideal(row, column));
            }
        }
    }

    private static String cells(WideCell x) {
        StringBuilder text = new StringBuilder("stamps and values");
        for (int copy = 0; copy < 3; copy++) {
            for (int cell = 0; cell < 64; cell++) {
                text.append(' ').append(x.stampAt(copy, cell / 4, cell % 4));
                text.append('/').append(x.valueAt(copy, cell / 4, cell % 4));
            }
        }
        return text.toString();
    }

    private static String coversAndNodes(WideCell x) {
        StringBuilder text = new StringBuilder("buried and nodes");
        for (int copy = 0; copy < 3; copy++) {
            for (int cell = 0; cell < 64; cell++) {
                text.append(' ').append(x.buriedBy(copy, cell / 4, cell % 4));
            }
            for (int node = 1; node < 16; node++) {
                int level = 31 - Integer.numberOfLeadingZeros(node);
                text.append(' ').append(x.sumOf(copy, level, node - (1 << level)));
            }
            for (int other = 0; other < 3; other++) {
                text.append(' ').append(x.compared(copy, other)).append(' ').append(x.unlike(copy, other));
                text.append(' ').append(x.areAlike(copy, other));
            }
        }
        return text.toString();
    }

    private static String hintsAsTheyAreTaken(WideCell x) {
        StringBuilder text = new StringBuilder("hints taken");
        for (int copy = 0; copy < 3; copy++) {
            text.append("\ncopy ").append(copy).append(" takes ").append(x.setUp(copy, true));
            counts(x, copy, text);
        }
        return text.toString();
    }

    private static String rangesThatCanBeDeleted(WideCell x) {
        StringBuilder text = new StringBuilder("ranges");
        for (int from = 0; from < 16; from++) {
            for (int to = from; to < 16; to++) {
                int first = from;
                int last = to;
                text.append(' ').append(Check.outcomeOf(() -> x.deleteRange(0, first, last, 0)).charAt(0));
            }
        }
        return text.toString();
    }

    /** Tells of the tombstones at the ideal copy, which nothing shows by itself. */
    private static String idealWithMoreWritten(WideCell x) {
        StringBuilder text = new StringBuilder("ideal, written to");
        for (int cell = 0; cell < 64; cell++) {
            x.write(0, cell / 4, cell % 4, 999, 500, 0);
        }
        ideal(x, text);
        return text.toString();
    }
}
