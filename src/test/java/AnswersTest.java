/** Promises 14 to 23: what the copies have. */
public final class AnswersTest {
    private AnswersTest() {
    }

    public static void main(String[] args) {
        time();
        isUp();
        hints();
        repairs();
        valueAt();
        stampAt();
        buriedBy();
        tombstones();
        entries();
        ideal();
        copiesThatAreDownTellToo();
        wrongCopies();
        wrongCells();
        askingChangesNothing();
        Check.end("AnswersTest");
    }

    private static void time() {
        WideCell x = new WideCell();
        Check.answers("14: at first", 0, x.time());
        x.pass(42);
        x.write(7, 0, 0, 0, 0, 9);
        Check.answers("14: after 42", 42, x.time());
    }

    private static void isUp() {
        WideCell x = new WideCell();
        x.setUp(0, false);
        x.setUp(2, false);
        x.setUp(2, true);
        Check.fails("15: copy 0", x.isUp(0));
        Check.holds("15: copy 1", x.isUp(1));
        Check.holds("15: copy 2", x.isUp(2));
    }

    private static void hints() {
        WideCell x = new WideCell();
        x.setUp(1, false);
        x.write(7, 0, 0, 0, 0, 0);
        x.deleteCell(2, 0, 0, 0);
        x.deleteColumn(3, 0, 0);
        x.deleteRow(6, 0, 0);
        x.deleteRange(7, 0, 0, 0);
        x.deleteRange(5, 0, 0, 0);
        Check.answers("16: all kinds of calls", 5, x.hints(1));
        Check.answers("16: a copy that is up", 0, x.hints(0));
        x.write(2, 0, 0, 0, 0, 0);
        Check.answers("16: the same again is a hint too", 6, x.hints(1));
    }

    private static void repairs() {
        WideCell x = new WideCell();
        x.write(1, 0, 0, 1, 1, 0);
        x.write(1, 0, 1, 1, 1, 0);
        x.read(0, 1, 0, 0);
        x.read(0, 1, 0, 0);
        x.read(1, 2, 0, 0);
        x.read(0, 2, 0, 1);
        Check.answers("17: three", 3, x.repairs());
    }

    private static void valueAt() {
        WideCell x = new WideCell();
        x.write(1, 1, 1, 11, 5, 0);
        x.write(2, 1, 1, 22, 6, 4);
        Check.answers("18: copy 0", 11, x.valueAt(0, 1, 1));
        Check.answers("18: copy 1", 22, x.valueAt(1, 1, 1));
        Check.answers("18: copy 2", -1, x.valueAt(2, 1, 1));
        x.pass(4);
        Check.answers("18: expired", -1, x.valueAt(1, 1, 1));
        x.deleteColumn(1, 1, 5);
        Check.answers("18: covered", -1, x.valueAt(0, 1, 1));
        Check.answers("18: asking repairs nothing", 0, x.repairs());
        Check.answers("18: nor takes anything", -1, x.stampAt(2, 1, 1));
    }

    private static void stampAt() {
        WideCell x = new WideCell();
        x.write(1, 1, 1, 11, 5, 2);
        x.deleteRow(1, 1, 9);
        x.pass(2);
        Check.answers("19: covered and expired", 5, x.stampAt(0, 1, 1));
        Check.answers("19: no entry", -1, x.stampAt(1, 1, 1));
        Check.answers("19: a tombstone is no entry", -1, x.stampAt(0, 1, 2));
        x.write(4, 15, 3, 0, 0, 0);
        Check.answers("19: stamp 0", 0, x.stampAt(2, 15, 3));
    }

    private static void buriedBy() {
        int[] stamps = {40, 30, 20, 10};
        for (int greatest = 0; greatest < 4; greatest++) {
            WideCell x = new WideCell();
            x.deleteCell(1, 8, 2, stamps[greatest]);
            x.deleteColumn(1, 2, stamps[(greatest + 1) % 4]);
            x.deleteRow(1, 8, stamps[(greatest + 2) % 4]);
            x.deleteRange(1, 7, 9, stamps[(greatest + 3) % 4]);
            Check.answers("20: of all reaches", 40, x.buriedBy(0, 8, 2));
            Check.answers("20: column and range", Math.max(stamps[(greatest + 1) % 4], stamps[(greatest + 3) % 4]),
                    x.buriedBy(0, 7, 2));
            Check.answers("20: row and range", Math.max(stamps[(greatest + 2) % 4], stamps[(greatest + 3) % 4]),
                    x.buriedBy(0, 8, 3));
            Check.answers("20: column alone", stamps[(greatest + 1) % 4], x.buriedBy(0, 0, 2));
            Check.answers("20: none", -1, x.buriedBy(0, 10, 0));
            Check.answers("20: another copy", -1, x.buriedBy(1, 8, 2));
        }
    }

    private static void tombstones() {
        WideCell x = new WideCell();
        for (int row = 0; row < 16; row++) {
            for (int column = 0; column < 4; column++) {
                x.deleteCell(1, row, column, 1);
            }
            x.deleteRow(1, row, 1);
        }
        for (int column = 0; column < 3; column++) {
            x.deleteColumn(1, column, 1);
        }
        for (int row = 0; row < 8; row++) {
            x.deleteRange(1, row, 15, 1);
            x.deleteRange(1, row, 15, 2);
        }
        Check.answers("21: CELL", 64, x.tombstones(0, WideCell.CELL));
        Check.answers("21: COLUMN", 3, x.tombstones(0, WideCell.COLUMN));
        Check.answers("21: ROW", 16, x.tombstones(0, WideCell.ROW));
        Check.answers("21: RANGE", 8, x.tombstones(0, WideCell.RANGE));
        Check.answers("21: another copy", 0, x.tombstones(1, WideCell.CELL));
        Check.noArgument("21: reach -1", () -> x.tombstones(0, -1));
        Check.noArgument("21: reach 4", () -> x.tombstones(0, 4));
        Check.noIndex("21: copy -1", () -> x.tombstones(-1, 0));
        Check.noIndex("21: copy 3, reach 4", () -> x.tombstones(3, 4));
    }

    private static void entries() {
        WideCell x = new WideCell();
        for (int row = 0; row < 16; row++) {
            for (int column = 0; column < 4; column++) {
                x.write(2, row, column, 0, 0, 1);
            }
        }
        x.write(2, 0, 0, 7, 7, 0);
        x.pass(1);
        x.deleteRow(2, 1, 0);
        Check.answers("22: all cells", 64, x.entries(1));
        Check.answers("22: another copy", 0, x.entries(0));
        Check.answers("22: expired at least 10 ago, or covered", 4, x.clean(1));
        Check.answers("22: the rest", 60, x.entries(1));
    }

    private static void ideal() {
        WideCell x = new WideCell();
        x.setUp(0, false);
        x.setUp(1, false);
        x.setUp(2, false);
        x.write(7, 3, 3, 5, 5, 0);
        Check.answers("23: all copies are down", 5, x.ideal(3, 3));
        x.loseHints(0);
        x.deleteRange(0, 3, 3, 4);
        Check.answers("23: a lesser tombstone", 5, x.ideal(3, 3));
        x.deleteRange(0, 3, 4, 5);
        Check.answers("23: covered", -1, x.ideal(3, 3));
        x.write(0, 3, 3, 6, 6, 2);
        Check.answers("23: written again", 6, x.ideal(3, 3));
        x.pass(2);
        Check.answers("23: expired", -1, x.ideal(3, 3));
        x.write(0, 3, 3, 4, 6, 0);
        Check.answers("23: the better entry has expired, but stays", -1, x.ideal(3, 3));
        Check.noIndex("23: row -1", () -> x.ideal(-1, 0));
        Check.noIndex("23: row 16", () -> x.ideal(16, 0));
        Check.noIndex("23: column -1", () -> x.ideal(0, -1));
        Check.noIndex("23: column 4", () -> x.ideal(0, 4));
    }

    private static void copiesThatAreDownTellToo() {
        WideCell x = new WideCell();
        x.write(7, 3, 3, 5, 5, 0);
        x.deleteRow(7, 3, 4);
        x.setUp(1, false);
        Check.answers("18: down", 5, x.valueAt(1, 3, 3));
        Check.answers("19: down", 5, x.stampAt(1, 3, 3));
        Check.answers("20: down", 4, x.buriedBy(1, 3, 3));
        Check.answers("21: down", 1, x.tombstones(1, WideCell.ROW));
        Check.answers("22: down", 1, x.entries(1));
        Check.answers("24: down", x.sumOf(0, 0, 0), x.sumOf(1, 0, 0));
        Check.answers("25: down", 1, x.compared(0, 1));
        Check.answers("26: down", 0, x.unlike(1, 2));
        Check.holds("27: down", x.areAlike(0, 1));
    }

    private static void wrongCopies() {
        WideCell x = new WideCell();
        for (int copy : new int[] {Integer.MIN_VALUE, -1, 3, 7, Integer.MAX_VALUE}) {
            Check.noIndex("15: copy " + copy, () -> x.isUp(copy));
            Check.noIndex("16: copy " + copy, () -> x.hints(copy));
            Check.noIndex("18: copy " + copy, () -> x.valueAt(copy, 0, 0));
            Check.noIndex("19: copy " + copy, () -> x.stampAt(copy, 0, 0));
            Check.noIndex("20: copy " + copy, () -> x.buriedBy(copy, 0, 0));
            Check.noIndex("21: copy " + copy, () -> x.tombstones(copy, 0));
            Check.noIndex("22: copy " + copy, () -> x.entries(copy));
        }
    }

    private static void wrongCells() {
        WideCell x = new WideCell();
        for (int row : new int[] {Integer.MIN_VALUE, -1, 16, Integer.MAX_VALUE}) {
            Check.noIndex("18: row " + row, () -> x.valueAt(0, row, 0));
            Check.noIndex("19: row " + row, () -> x.stampAt(0, row, 0));
            Check.noIndex("20: row " + row, () -> x.buriedBy(0, row, 0));
            Check.noIndex("23: row " + row, () -> x.ideal(row, 0));
        }
        for (int column : new int[] {Integer.MIN_VALUE, -1, 4, Integer.MAX_VALUE}) {
            Check.noIndex("18: column " + column, () -> x.valueAt(0, 0, column));
            Check.noIndex("19: column " + column, () -> x.stampAt(0, 0, column));
            Check.noIndex("20: column " + column, () -> x.buriedBy(0, 0, column));
            Check.noIndex("23: column " + column, () -> x.ideal(0, column));
        }
    }

    private static void askingChangesNothing() {
        WideCell x = new WideCell();
        x.write(1, 0, 1, 5, 5, 0);
        x.deleteColumn(2, 1, 3);
        x.setUp(2, false);
        x.write(4, 0, 1, 6, 6, 0);
        String before = Snapshot.of(x);
        x.compared(0, 1);
        x.unlike(1, 2);
        x.areAlike(0, 2);
        Check.same("14 to 27: asking changes nothing", before, Snapshot.of(x));
    }
}
