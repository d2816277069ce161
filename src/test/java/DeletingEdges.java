/** The promises 3 to 6: deleting a cell, a column, a row and a range of rows. */
final class DeletingEdges {
    private static final String CELL = "Promise 3";
    private static final String COLUMN = "Promise 4";
    private static final String ROW = "Promise 5";
    private static final String RANGE = "Promise 6";

    /** A deletion of one kind, of the same cells at every time. */
    private interface Deletion {
        int on(WideCell x, int copies, int stamp);
    }

    private DeletingEdges() {
    }

    // ---- what all four have in common

    /** Every set goes to its copies, and those beside the least and the greatest are refused. */
    private static void checkCopies(int reach, Deletion deletion) {
        for (int set = 0; set <= 7; set++) {
            WideCell x = new WideCell();
            Check.answers("set " + set, Integer.bitCount(set), deletion.on(x, set, 9));
            for (int copy = 0; copy < 3; copy++) {
                Check.answers("copy " + copy + ", set " + set, set >> copy & 1, x.tombstones(copy, reach));
            }
        }
        for (int set : Refused.beside(0, 7)) {
            Refused.argument("set " + set, x -> deletion.on(x, set, 600));
        }
    }

    /** The deletion has the row 5 and the column 1. */
    private static void checkStamp(Deletion deletion) {
        WideCell x = new WideCell();
        for (int stamp : new int[] {0, 1, 998, 999}) {
            Check.answers("stamp " + stamp, 3, deletion.on(x, 7, stamp));
            Check.answers("stamp " + stamp + ", asked", stamp, x.buriedBy(2, 5, 1));
            x.write(7, 5, 1, 9, stamp, 0);
            Check.answers("stamp " + stamp + " covers", WideCell.NONE, x.valueAt(1, 5, 1));
        }
        for (int stamp : Refused.beside(0, 999)) {
            Refused.argument("stamp " + stamp, y -> deletion.on(y, 7, stamp));
        }
    }

    private static void checkHowManyAreUp(Deletion deletion) {
        for (int up = 0; up <= 7; up++) {
            WideCell x = new WideCell();
            for (int copy = 0; copy < 3; copy++) {
                x.setUp(copy, (up >> copy & 1) == 1);
            }
            for (int set = 0; set <= 7; set++) {
                int want = Integer.bitCount(set & up);
                Check.answers("set " + set + ", up " + up, want, deletion.on(x, set, 5));
                Check.answers("a worse one, set " + set + ", up " + up, want, deletion.on(x, set, 4));
            }
        }
    }

    private static void checkThrowsForCopiesAndStamp(Deletion deletion) {
        for (int set : Refused.farFrom(0, 7)) {
            Refused.argument("copies " + set, x -> deletion.on(x, set, 600));
        }
        for (int stamp : Refused.farFrom(0, 999)) {
            Refused.argument("stamp " + stamp, x -> deletion.on(x, 7, stamp));
        }
        Refused.argument("both", x -> deletion.on(x, 8, 1000));
    }

    /** What is buried at the copy 1: just the cells in these rows and columns. */
    private static void checkBuried(WideCell x, String what, int top, int bottom, int left, int right) {
        for (int cell = 0; cell < 64; cell++) {
            int row = cell / 4;
            int column = cell % 4;
            boolean isIn = row >= top && row <= bottom && column >= left && column <= right;
            Check.answers(what + " and cell " + cell, isIn ? 9 : WideCell.NONE, x.buriedBy(1, row, column));
        }
    }

    // ---- deleteCell

    static void cellDeletes() {
        Doc.says(CELL, "Deletes a cell: a tombstone of the reach CELL is made.");
        WideCell x = new WideCell();
        for (int cell = 0; cell < 64; cell++) {
            Check.answers("tombstones before cell " + cell, cell, x.tombstones(1, WideCell.CELL));
            x.deleteCell(7, cell / 4, cell % 4, 9);
        }
        x.deleteCell(7, 0, 0, 10);
        Check.answers("all cells", 64, x.tombstones(1, WideCell.CELL));
        Check.answers("COLUMN", 0, x.tombstones(1, WideCell.COLUMN));
        Check.answers("ROW", 0, x.tombstones(1, WideCell.ROW));
        Check.answers("RANGE", 0, x.tombstones(1, WideCell.RANGE));
    }

    static void cellCopies() {
        Doc.says(CELL, "`copies`: a set of copies, 0 to 7");
        checkCopies(WideCell.CELL, (x, copies, stamp) -> x.deleteCell(copies, 5, 1, stamp));
    }

    static void cellRow() {
        Doc.says(CELL, "`row`: 0 to 15");
        for (int row : new int[] {0, 15}) {
            WideCell x = new WideCell();
            x.deleteCell(7, row, 1, 9);
            checkBuried(x, "row " + row, row, row, 1, 1);
        }
        for (int row : Refused.beside(0, 15)) {
            Refused.index("row " + row, x -> x.deleteCell(7, row, 1, 600));
        }
    }

    static void cellColumn() {
        Doc.says(CELL, "`column`: 0 to 3");
        for (int column : new int[] {0, 3}) {
            WideCell x = new WideCell();
            x.deleteCell(7, 5, column, 9);
            checkBuried(x, "column " + column, 5, 5, column, column);
        }
        for (int column : Refused.beside(0, 3)) {
            Refused.index("column " + column, x -> x.deleteCell(7, 5, column, 600));
        }
    }

    static void cellStamp() {
        Doc.says(CELL, "`stamp`: 0 to 999");
        checkStamp((x, copies, stamp) -> x.deleteCell(copies, 5, 1, stamp));
    }

    static void cellReturns() {
        Doc.says(CELL, "Returns how many of the copies are up.");
        checkHowManyAreUp((x, copies, stamp) -> x.deleteCell(copies, 5, 1, stamp));
    }

    static void cellThrowsForRowAndColumn() {
        Doc.says(CELL, "Throws `IndexOutOfBoundsException` if there is no such row or column");
        for (int row : Refused.farFrom(0, 15)) {
            Refused.index("row " + row, x -> x.deleteCell(7, row, 1, 600));
        }
        for (int column : Refused.farFrom(0, 3)) {
            Refused.index("column " + column, x -> x.deleteCell(7, 5, column, 600));
        }
        Refused.index("row -1, column 4", x -> x.deleteCell(7, -1, 4, 600));
    }

    static void cellThrowsForOthers() {
        Doc.says(CELL, "Throws `IllegalArgumentException` if copies or stamp is out of range");
        checkThrowsForCopiesAndStamp((x, copies, stamp) -> x.deleteCell(copies, 5, 1, stamp));
    }

    // ---- deleteColumn

    static void columnDeletes() {
        Doc.says(COLUMN, "Deletes a column in all rows.");
        WideCell x = new WideCell();
        for (int cell = 0; cell < 64; cell++) {
            x.write(7, cell / 4, cell % 4, cell, 9, 0);
        }
        x.deleteColumn(7, 2, 9);
        for (int cell = 0; cell < 64; cell++) {
            int want = cell % 4 == 2 ? WideCell.NONE : cell;
            Check.answers("cell " + cell, want, x.valueAt(1, cell / 4, cell % 4));
            Check.answers("ideal cell " + cell, want, x.ideal(cell / 4, cell % 4));
        }
        Check.answers("one tombstone", 1, x.tombstones(1, WideCell.COLUMN));
        Check.answers("none for a cell", 0, x.tombstones(1, WideCell.CELL));
    }

    static void columnCopies() {
        Doc.says(COLUMN, "`copies`: a set of copies, 0 to 7");
        checkCopies(WideCell.COLUMN, (x, copies, stamp) -> x.deleteColumn(copies, 1, stamp));
    }

    static void columnColumn() {
        Doc.says(COLUMN, "`column`: 0 to 3");
        for (int column : new int[] {0, 3}) {
            WideCell x = new WideCell();
            x.deleteColumn(7, column, 9);
            checkBuried(x, "column " + column, 0, 15, column, column);
        }
        for (int column : Refused.beside(0, 3)) {
            Refused.index("column " + column, x -> x.deleteColumn(7, column, 600));
        }
    }

    static void columnStamp() {
        Doc.says(COLUMN, "`stamp`: 0 to 999");
        checkStamp((x, copies, stamp) -> x.deleteColumn(copies, 1, stamp));
    }

    static void columnReturns() {
        Doc.says(COLUMN, "Returns how many of the copies are up.");
        checkHowManyAreUp((x, copies, stamp) -> x.deleteColumn(copies, 1, stamp));
    }

    static void columnThrowsForColumn() {
        Doc.says(COLUMN, "Throws `IndexOutOfBoundsException` if there is no such column");
        for (int column : Refused.farFrom(0, 3)) {
            Refused.index("column " + column, x -> x.deleteColumn(7, column, 600));
        }
    }

    static void columnThrowsForOthers() {
        Doc.says(COLUMN, "Throws `IllegalArgumentException` if copies or stamp is out of range");
        checkThrowsForCopiesAndStamp((x, copies, stamp) -> x.deleteColumn(copies, 1, stamp));
    }

    // ---- deleteRow

    static void rowDeletes() {
        Doc.says(ROW, "Deletes a row: a tombstone of the reach ROW is made.");
        WideCell x = new WideCell();
        for (int row = 0; row < 16; row++) {
            Check.answers("tombstones before row " + row, row, x.tombstones(1, WideCell.ROW));
            x.deleteRow(7, row, 9);
        }
        x.deleteRow(7, 15, 10);
        Check.answers("all rows", 16, x.tombstones(1, WideCell.ROW));
        Check.answers("CELL", 0, x.tombstones(1, WideCell.CELL));
        Check.answers("COLUMN", 0, x.tombstones(1, WideCell.COLUMN));
        Check.answers("RANGE", 0, x.tombstones(1, WideCell.RANGE));
    }

    static void rowCopies() {
        Doc.says(ROW, "`copies`: a set of copies, 0 to 7");
        checkCopies(WideCell.ROW, (x, copies, stamp) -> x.deleteRow(copies, 5, stamp));
    }

    static void rowRow() {
        Doc.says(ROW, "`row`: 0 to 15");
        for (int row : new int[] {0, 15}) {
            WideCell x = new WideCell();
            x.deleteRow(7, row, 9);
            checkBuried(x, "row " + row, row, row, 0, 3);
        }
        for (int row : Refused.beside(0, 15)) {
            Refused.index("row " + row, x -> x.deleteRow(7, row, 600));
        }
    }

    static void rowStamp() {
        Doc.says(ROW, "`stamp`: 0 to 999");
        checkStamp((x, copies, stamp) -> x.deleteRow(copies, 5, stamp));
    }

    static void rowReturns() {
        Doc.says(ROW, "Returns how many of the copies are up.");
        checkHowManyAreUp((x, copies, stamp) -> x.deleteRow(copies, 5, stamp));
    }

    static void rowThrowsForRow() {
        Doc.says(ROW, "Throws `IndexOutOfBoundsException` if there is no such row");
        for (int row : Refused.farFrom(0, 15)) {
            Refused.index("row " + row, x -> x.deleteRow(7, row, 600));
        }
    }

    static void rowThrowsForOthers() {
        Doc.says(ROW, "Throws `IllegalArgumentException` if copies or stamp is out of range");
        checkThrowsForCopiesAndStamp((x, copies, stamp) -> x.deleteRow(copies, 5, stamp));
    }

    // ---- deleteRange

    static void rangeDeletes() {
        Doc.says(RANGE, "Deletes a range of rows.");
        int[][] ranges = {{0, 0}, {0, 15}, {15, 15}, {5, 5}, {5, 6}, {1, 14}};
        for (int[] range : ranges) {
            WideCell x = new WideCell();
            x.deleteRange(7, range[0], range[1], 9);
            String what = "from " + range[0] + " to " + range[1];
            checkBuried(x, what, range[0], range[1], 0, 3);
            Check.answers("one tombstone, " + what, 1, x.tombstones(1, WideCell.RANGE));
            Check.answers("it is no row's, " + what, 0, x.tombstones(1, WideCell.ROW));
        }
    }

    static void rangeCopies() {
        Doc.says(RANGE, "`copies`: a set of copies, 0 to 7");
        checkCopies(WideCell.RANGE, (x, copies, stamp) -> x.deleteRange(copies, 5, 5, stamp));
    }

    static void rangeFrom() {
        Doc.says(RANGE, "`from`: the first row, 0 to 15");
        for (int from : new int[] {0, 1, 14, 15}) {
            WideCell x = new WideCell();
            Check.answers("from " + from, 3, x.deleteRange(7, from, 15, 9));
            checkBuried(x, "from " + from, from, 15, 0, 3);
        }
        for (int from : Refused.beside(0, 15)) {
            Refused.index("from " + from, x -> x.deleteRange(7, from, 15, 600));
        }
    }

    static void rangeTo() {
        Doc.says(RANGE, "`to`: the last row, 0 to 15");
        for (int to : new int[] {0, 1, 14, 15}) {
            WideCell x = new WideCell();
            Check.answers("to " + to, 3, x.deleteRange(7, 0, to, 9));
            checkBuried(x, "to " + to, 0, to, 0, 3);
        }
        for (int to : Refused.beside(0, 15)) {
            Refused.index("to " + to, x -> x.deleteRange(7, 0, to, 600));
        }
    }

    static void rangeStamp() {
        Doc.says(RANGE, "`stamp`: 0 to 999");
        checkStamp((x, copies, stamp) -> x.deleteRange(copies, 4, 6, stamp));
    }

    static void rangeReturns() {
        Doc.says(RANGE, "Returns how many of the copies are up.");
        checkHowManyAreUp((x, copies, stamp) -> x.deleteRange(copies, 4, 6, stamp));
    }

    static void rangeThrowsForRows() {
        Doc.says(RANGE, "Throws `IndexOutOfBoundsException` if there is no row from or to");
        for (int row : Refused.farFrom(0, 15)) {
            Refused.index("from " + row, x -> x.deleteRange(7, row, 5, 600));
            Refused.index("to " + row, x -> x.deleteRange(7, 5, row, 600));
            Refused.index("both " + row, x -> x.deleteRange(7, row, row, 600));
        }
    }

    static void rangeThrowsForCopiesAndStamp() {
        Doc.says(RANGE, "Throws `IllegalArgumentException` if copies or stamp is out of range");
        checkThrowsForCopiesAndStamp((x, copies, stamp) -> x.deleteRange(copies, 4, 6, stamp));
    }

    static void rangeThrowsForToBeforeFrom() {
        Doc.says(RANGE, "or to is less than from");
        for (int from = 1; from < 16; from++) {
            int first = from;
            Refused.argument("to is one before " + from, x -> x.deleteRange(7, first, first - 1, 600));
        }
        Refused.argument("from the last to the first row", x -> x.deleteRange(7, 15, 0, 600));
        WideCell x = new WideCell();
        Check.answers("to is from", 3, x.deleteRange(7, 8, 8, 0));
        Check.answers("to is one beyond from", 3, x.deleteRange(7, 8, 9, 0));
    }

    static void rangeThrowsForANinth() {
        Doc.says(RANGE, "Throws `IllegalStateException` if this range was never deleted, and 8 ranges were");
        Start full = Start.FULL_OF_RANGES;
        Refused.state(full, "a row that has none", x -> x.deleteRange(7, 8, 8, 600));
        Refused.state(full, "no copies", x -> x.deleteRange(0, 15, 15, 600));
        Refused.state(full, "the same first row", x -> x.deleteRange(7, 0, 1, 600));
        Refused.state(full, "the same last row", x -> x.deleteRange(7, 6, 7, 600));
        Refused.state(full, "all rows", x -> x.deleteRange(7, 0, 15, 0));
        for (int row = 0; row < 8; row++) {
            Check.answers("row " + row + " again", 3, full.make().deleteRange(7, row, row, 600));
        }
        WideCell x = new WideCell();
        for (int range = 0; range < 8; range++) {
            int from = range;
            Check.answers("range " + range, 0, x.deleteRange(0, from, 15, 1));
            Check.noArgument("a refused one does not count", () -> x.deleteRange(7, 15, from, 1000));
        }
        Check.noState("the ninth", () -> x.deleteRange(7, 8, 15, 1));
        Check.noState("another ninth", () -> x.deleteRange(7, 15, 15, 1));
        Check.answers("the eighth again", 3, x.deleteRange(7, 7, 15, 2));
    }
}
