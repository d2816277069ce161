/** The promises 14 to 23: what the copies have. */
final class AnswersEdges {
    private static final String VALUE_AT = "Promise 18";
    private static final String STAMP_AT = "Promise 19";
    private static final String BURIED_BY = "Promise 20";
    private static final String TOMBSTONES = "Promise 21";
    private static final String ENTRIES = "Promise 22";
    private static final String IDEAL = "Promise 23";

    /** A question about a cell of a copy. */
    private interface CellCall {
        int on(WideCell x, int copy, int row, int column);
    }

    private AnswersEdges() {
    }

    // ---- what several have in common

    private static void refuseCopies(int[] copies, CellCall call) {
        for (int copy : copies) {
            Refused.index("copy " + copy, x -> call.on(x, copy, 3, 1));
        }
    }

    private static void refuseRows(int[] rows, CellCall call) {
        for (int row : rows) {
            Refused.index("row " + row, x -> call.on(x, 1, row, 1));
        }
    }

    private static void refuseColumns(int[] columns, CellCall call) {
        for (int column : columns) {
            Refused.index("column " + column, x -> call.on(x, 1, 3, column));
        }
    }

    private static void refuseFar(CellCall call) {
        refuseCopies(Refused.farFrom(0, 2), call);
        refuseRows(Refused.farFrom(0, 15), call);
        refuseColumns(Refused.farFrom(0, 3), call);
        // Each of these would be a cell of the table if it were counted as row * 4 + column.
        Refused.index("row 0, column 5", x -> call.on(x, 1, 0, 5));
        Refused.index("row -1, column 4", x -> call.on(x, 1, -1, 4));
        Refused.index("row 16, column -1", x -> call.on(x, 1, 16, -1));
    }

    /** Each copy tells of its own, when each has something of its own in the cell 3, 1: 10, 20 and 30. */
    private static void checkCopies(CellCall call) {
        WideCell x = new WideCell();
        for (int copy = 0; copy <= 2; copy++) {
            x.write(1 << copy, 3, 1, 10 * copy + 10, 10 * copy + 10, 0);
            x.deleteCell(1 << copy, 3, 1, 0);
        }
        for (int copy = 0; copy <= 2; copy++) {
            Check.answers("copy " + copy, 10 * copy + 10, call.on(x, copy, 3, 1));
        }
        refuseCopies(Refused.beside(0, 2), call);
    }

    /** Each cell tells of its own, when the corners of the table have 1 to 4 and no other cell has anything. */
    private static void checkCell(boolean isOfRows, CellCall call) {
        WideCell x = new WideCell();
        int[][] corners = {{0, 0}, {0, 3}, {15, 0}, {15, 3}};
        for (int i = 0; i < 4; i++) {
            x.write(7, corners[i][0], corners[i][1], i + 1, i + 1, 0);
        }
        for (int cell = 0; cell < 64; cell++) {
            int row = cell / 4;
            int column = cell % 4;
            boolean isCorner = (row == 0 || row == 15) && (column == 0 || column == 3);
            int want = isCorner ? 1 + row / 15 * 2 + column / 3 : WideCell.NONE;
            Check.answers("row " + row + ", column " + column, want, call.on(x, 1, row, column));
        }
        if (isOfRows) {
            refuseRows(Refused.beside(0, 15), call);
        } else {
            refuseColumns(Refused.beside(0, 3), call);
        }
    }

    // ---- time, isUp, hints, repairs

    static void time() {
        Doc.says("Promise 14", "Returns the time.");
        WideCell x = new WideCell();
        Check.answers("at first", 0, x.time());
        x.pass(1);
        Check.answers("1", 1, x.time());
        Check.answers("asking lets none pass", 1, x.time());
        Start.passTo(x, 10000);
        Check.answers("the last", 10000, x.time());
        Check.noState("refused", () -> x.pass(1));
        Check.answers("still the last", 10000, x.time());
    }

    static void isUp() {
        Doc.says("Promise 15", "Returns whether a copy is up.");
        for (int up = 0; up <= 7; up++) {
            WideCell x = new WideCell();
            for (int copy = 0; copy < 3; copy++) {
                x.setUp(copy, (up >> copy & 1) == 1);
            }
            for (int copy = 0; copy < 3; copy++) {
                Check.same("copy " + copy + ", up " + up, (up >> copy & 1) == 1, x.isUp(copy));
            }
        }
    }

    static void isUpCopy() {
        Doc.says("Promise 15", "`copy`: 0 to 2");
        for (int copy = 0; copy <= 2; copy++) {
            Check.holds("copy " + copy, new WideCell().isUp(copy));
        }
        for (int copy : Refused.beside(0, 2)) {
            Refused.index("copy " + copy, x -> x.isUp(copy));
        }
    }

    static void isUpReturns() {
        Doc.says("Promise 15", "Returns true if it is.");
        WideCell x = new WideCell();
        Check.holds("up", x.isUp(2));
        x.setUp(2, false);
        Check.fails("down", x.isUp(2));
        x.setUp(2, true);
        Check.holds("up again", x.isUp(2));
    }

    static void isUpThrows() {
        Doc.says("Promise 15", "Throws `IndexOutOfBoundsException` if there is no such copy");
        for (int copy : Refused.farFrom(0, 2)) {
            Refused.index("copy " + copy, x -> x.isUp(copy));
        }
    }

    static void hints() {
        Doc.says("Promise 16", "Returns how many hints there are for a copy.");
        WideCell x = Start.FULL_OF_HINTS.make();
        Check.answers("full", 10, x.hints(2));
        Check.answers("asking takes none", 10, x.hints(2));
        Check.answers("up", 0, x.hints(0));
        x.loseHints(2);
        Check.answers("lost", 0, x.hints(2));
        x.write(4, 0, 0, 1, 1, 0);
        Check.answers("one more", 1, x.hints(2));
        x.setUp(2, true);
        Check.answers("taken", 0, x.hints(2));
    }

    static void hintsCopy() {
        Doc.says("Promise 16", "`copy`: 0 to 2");
        for (int copy = 0; copy <= 2; copy++) {
            WideCell x = new WideCell();
            x.setUp(copy, false);
            x.deleteRow(7, 0, 0);
            for (int asked = 0; asked <= 2; asked++) {
                Check.answers("asked is " + asked + ", down is " + copy, asked == copy ? 1 : 0, x.hints(asked));
            }
        }
        for (int copy : Refused.beside(0, 2)) {
            Refused.index("copy " + copy, x -> x.hints(copy));
        }
    }

    static void hintsReturns() {
        Doc.says("Promise 16", "Returns 0 to 10.");
        WideCell x = new WideCell();
        x.setUp(1, false);
        for (int made = 0; made <= 30; made++) {
            Check.answers("made " + made, Math.min(made, 10), x.hints(1));
            x.write(2, made % 16, 0, made, made, 0);
        }
    }

    static void hintsThrows() {
        Doc.says("Promise 16", "Throws `IndexOutOfBoundsException` if there is no such copy");
        for (int copy : Refused.farFrom(0, 2)) {
            Refused.index("copy " + copy, x -> x.hints(copy));
        }
    }

    static void repairs() {
        Doc.says("Promise 17", "Returns how many repairs there were.");
        WideCell x = new WideCell();
        Check.answers("none", 0, x.repairs());
        for (int cell = 0; cell < 64; cell++) {
            x.write(1 << cell % 2, cell / 4, cell % 4, 1, 1, 0);
            x.read(0, 1, cell / 4, cell % 4);
            Check.answers("after cell " + cell, cell + 1, x.repairs());
        }
        x.read(1, 0, 15, 3);
        Check.answers("a reading without one", 64, x.repairs());
        x.makeAlike(0, 2);
        Check.answers("making alike is none", 64, x.repairs());
        x.setUp(2, false);
        x.deleteRow(7, 0, 5);
        x.setUp(2, true);
        Check.answers("taking a hint is none", 64, x.repairs());
        Check.noArgument("refused", () -> x.read(0, 0, 0, 0));
        Check.answers("nor is a refused one", 64, x.repairs());
    }

    // ---- valueAt

    static void valueAtUpOrDown() {
        Doc.says(VALUE_AT, "Returns the value of a cell at one copy, up or down.");
        WideCell x = new WideCell();
        x.write(3, 3, 1, 9, 9, 2);
        x.setUp(0, false);
        x.setUp(1, false);
        Check.answers("down", 9, x.valueAt(0, 3, 1));
        x.write(7, 3, 1, 10, 10, 0);
        x.deleteRow(7, 3, 10);
        Check.answers("what waits as a hint does not count", 9, x.valueAt(0, 3, 1));
        x.pass(1);
        Check.answers("down, before its end", 9, x.valueAt(1, 3, 1));
        x.pass(1);
        Check.answers("down, at its end", WideCell.NONE, x.valueAt(1, 3, 1));
        x.setUp(1, true);
        x.write(7, 3, 1, 11, 11, 0);
        Check.answers("up again", 11, x.valueAt(1, 3, 1));
    }

    static void valueAtCopy() {
        Doc.says(VALUE_AT, "`copy`: 0 to 2");
        checkCopies((x, copy, row, column) -> x.valueAt(copy, row, column));
    }

    static void valueAtRow() {
        Doc.says(VALUE_AT, "`row`: 0 to 15");
        checkCell(true, (x, copy, row, column) -> x.valueAt(copy, row, column));
    }

    static void valueAtColumn() {
        Doc.says(VALUE_AT, "`column`: 0 to 3");
        checkCell(false, (x, copy, row, column) -> x.valueAt(copy, row, column));
    }

    static void valueAtReturns() {
        Doc.says(VALUE_AT, "Returns the value; NONE if no entry is visible.");
        WideCell x = new WideCell();
        Check.answers("no entry", WideCell.NONE, x.valueAt(0, 3, 1));
        x.write(1, 3, 1, 0, 0, 0);
        Check.answers("the least", 0, x.valueAt(0, 3, 1));
        x.write(1, 3, 1, 999, 0, 0);
        Check.answers("the greatest", 999, x.valueAt(0, 3, 1));
        x.deleteCell(1, 3, 1, 0);
        Check.answers("covered", WideCell.NONE, x.valueAt(0, 3, 1));
        x.write(1, 3, 1, 5, 1, 1);
        Check.answers("not covered", 5, x.valueAt(0, 3, 1));
        x.pass(1);
        Check.answers("expired", WideCell.NONE, x.valueAt(0, 3, 1));
        x.setGrace(0);
        x.clean(0);
        Check.answers("dropped", WideCell.NONE, x.valueAt(0, 3, 1));
    }

    static void valueAtThrows() {
        Doc.says(VALUE_AT, "Throws `IndexOutOfBoundsException` if there is no such copy, row or column");
        refuseFar((x, copy, row, column) -> x.valueAt(copy, row, column));
    }

    // ---- stampAt

    static void stampAtVisibleOrNot() {
        Doc.says(STAMP_AT, "Returns the stamp of the entry of a cell at a copy, visible or not.");
        WideCell x = new WideCell();
        x.write(7, 3, 1, 9, 7, 1);
        Check.answers("visible", 7, x.stampAt(0, 3, 1));
        x.pass(1);
        Check.answers("expired", 7, x.stampAt(0, 3, 1));
        x.deleteRow(7, 3, 999);
        Check.answers("expired and covered", 7, x.stampAt(0, 3, 1));
        x.write(7, 3, 1, 9, 8, 0);
        Check.answers("covered", 8, x.stampAt(0, 3, 1));
        x.setUp(0, false);
        Check.answers("down", 8, x.stampAt(0, 3, 1));
    }

    static void stampAtCopy() {
        Doc.says(STAMP_AT, "`copy`: 0 to 2");
        checkCopies((x, copy, row, column) -> x.stampAt(copy, row, column));
    }

    static void stampAtRow() {
        Doc.says(STAMP_AT, "`row`: 0 to 15");
        checkCell(true, (x, copy, row, column) -> x.stampAt(copy, row, column));
    }

    static void stampAtColumn() {
        Doc.says(STAMP_AT, "`column`: 0 to 3");
        checkCell(false, (x, copy, row, column) -> x.stampAt(copy, row, column));
    }

    static void stampAtReturns() {
        Doc.says(STAMP_AT, "Returns the stamp; NONE if there is no entry.");
        WideCell x = new WideCell();
        Check.answers("no entry", WideCell.NONE, x.stampAt(0, 3, 1));
        x.deleteCell(1, 3, 1, 5);
        Check.answers("a tombstone is no entry", WideCell.NONE, x.stampAt(0, 3, 1));
        x.write(1, 3, 1, 5, 0, 0);
        Check.answers("the least", 0, x.stampAt(0, 3, 1));
        x.write(1, 3, 1, 5, 999, 0);
        Check.answers("the greatest", 999, x.stampAt(0, 3, 1));
        x.deleteCell(1, 3, 1, 999);
        x.clean(0);
        Check.answers("dropped", WideCell.NONE, x.stampAt(0, 3, 1));
    }

    static void stampAtThrows() {
        Doc.says(STAMP_AT, "Throws `IndexOutOfBoundsException` if there is no such copy, row or column");
        refuseFar((x, copy, row, column) -> x.stampAt(copy, row, column));
    }

    // ---- buriedBy

    static void buriedByTheGreatestStamp() {
        Doc.says(BURIED_BY, "Returns the greatest stamp of the tombstones at a copy that cover a cell.");
        for (int greatest = 0; greatest < 5; greatest++) {
            WideCell x = new WideCell();
            x.deleteCell(2, 3, 1, greatest == 0 ? 8 : 7);
            x.deleteColumn(2, 1, greatest == 1 ? 8 : 7);
            x.deleteRow(2, 3, greatest == 2 ? 8 : 7);
            x.deleteRange(2, 0, 3, greatest == 3 ? 8 : 7);
            x.deleteRange(2, 3, 15, greatest == 4 ? 8 : 7);
            Check.answers("reach " + greatest, 8, x.buriedBy(1, 3, 1));
            x.deleteCell(2, 3, 0, 999);
            x.deleteColumn(2, 2, 999);
            x.deleteRow(2, 4, 999);
            x.deleteRange(2, 0, 2, 999);
            x.deleteRange(2, 4, 15, 999);
            Check.answers("those beside the cell do not count, reach " + greatest, 8, x.buriedBy(1, 3, 1));
            x.deleteRow(5, 3, 999);
            Check.answers("nor do those of other copies, reach " + greatest, 8, x.buriedBy(1, 3, 1));
        }
    }

    static void buriedByCopy() {
        Doc.says(BURIED_BY, "`copy`: 0 to 2");
        WideCell x = new WideCell();
        for (int copy = 0; copy <= 2; copy++) {
            x.deleteCell(1 << copy, 3, 1, copy);
        }
        for (int copy = 0; copy <= 2; copy++) {
            Check.answers("copy " + copy, copy, x.buriedBy(copy, 3, 1));
        }
        refuseCopies(Refused.beside(0, 2), (y, copy, row, column) -> y.buriedBy(copy, row, column));
    }

    static void buriedByRow() {
        Doc.says(BURIED_BY, "`row`: 0 to 15");
        WideCell x = new WideCell();
        for (int row = 0; row <= 15; row += 15) {
            x.deleteCell(7, row, 1, row);
            Check.answers("row " + row, row, x.buriedBy(1, row, 1));
        }
        refuseRows(Refused.beside(0, 15), (y, copy, row, column) -> y.buriedBy(copy, row, column));
    }

    static void buriedByColumn() {
        Doc.says(BURIED_BY, "`column`: 0 to 3");
        WideCell x = new WideCell();
        for (int column = 0; column <= 3; column += 3) {
            x.deleteCell(7, 3, column, column);
            Check.answers("column " + column, column, x.buriedBy(1, 3, column));
        }
        refuseColumns(Refused.beside(0, 3), (y, copy, row, column) -> y.buriedBy(copy, row, column));
    }

    static void buriedByReturns() {
        Doc.says(BURIED_BY, "Returns the stamp; NONE if there is no such tombstone.");
        WideCell x = new WideCell();
        Check.answers("nothing", WideCell.NONE, x.buriedBy(0, 3, 1));
        x.write(1, 3, 1, 5, 5, 0);
        Check.answers("an entry is no tombstone", WideCell.NONE, x.buriedBy(0, 3, 1));
        x.deleteRange(1, 3, 3, 0);
        Check.answers("the least", 0, x.buriedBy(0, 3, 1));
        x.deleteColumn(1, 1, 999);
        Check.answers("the greatest", 999, x.buriedBy(0, 3, 1));
        x.setUp(0, false);
        Check.answers("down", 999, x.buriedBy(0, 3, 1));
        x.setUp(0, true);
        x.setGrace(0);
        x.clean(0);
        Check.answers("dropped", WideCell.NONE, x.buriedBy(0, 3, 1));
    }

    static void buriedByThrows() {
        Doc.says(BURIED_BY, "Throws `IndexOutOfBoundsException` if there is no such copy, row or column");
        refuseFar((x, copy, row, column) -> x.buriedBy(copy, row, column));
    }

    // ---- tombstones

    static void tombstonesWithAReach() {
        Doc.says(TOMBSTONES, "Returns how many tombstones with a reach a copy has.");
        int[] most = {64, 4, 16, 8};
        for (int reach = WideCell.CELL; reach <= WideCell.RANGE; reach++) {
            WideCell x = new WideCell();
            for (int i = 0; i < most[reach]; i++) {
                Check.answers("reach " + reach + " before " + i, i, x.tombstones(1, reach));
                deleteOne(x, reach, i);
                deleteOne(x, reach, i);
            }
            for (int asked = WideCell.CELL; asked <= WideCell.RANGE; asked++) {
                int want = asked == reach ? most[reach] : 0;
                Check.answers("asked is " + asked + ", made is " + reach, want, x.tombstones(1, asked));
            }
            Check.answers("another copy, reach " + reach, 0, x.tombstones(0, reach));
        }
    }

    private static void deleteOne(WideCell x, int reach, int number) {
        switch (reach) {
            case WideCell.CELL -> x.deleteCell(2, number / 4, number % 4, 0);
            case WideCell.COLUMN -> x.deleteColumn(2, number, 0);
            case WideCell.ROW -> x.deleteRow(2, number, 0);
            default -> x.deleteRange(2, number, 15 - number, 0);
        }
    }

    static void tombstonesCopy() {
        Doc.says(TOMBSTONES, "`copy`: 0 to 2");
        WideCell x = new WideCell();
        for (int row = 0; row <= 2; row++) {
            x.deleteRow(7 >> row, row, 0);
        }
        for (int copy = 0; copy <= 2; copy++) {
            Check.answers("copy " + copy, 3 - copy, x.tombstones(copy, WideCell.ROW));
        }
        for (int copy : Refused.beside(0, 2)) {
            Refused.index("copy " + copy, y -> y.tombstones(copy, WideCell.ROW));
        }
    }

    static void tombstonesReach() {
        Doc.says(TOMBSTONES, "`reach`: CELL, COLUMN, ROW or RANGE");
        WideCell x = new WideCell();
        for (int reach = WideCell.CELL; reach <= WideCell.RANGE; reach++) {
            Check.answers("none, reach " + reach, 0, x.tombstones(1, reach));
            deleteOne(x, reach, 3);
            Check.answers("one, reach " + reach, 1, x.tombstones(1, reach));
        }
        for (int reach : Refused.beside(WideCell.CELL, WideCell.RANGE)) {
            Refused.argument("reach " + reach, y -> y.tombstones(1, reach));
        }
    }

    static void tombstonesReturns() {
        Doc.says(TOMBSTONES, "Returns how many.");
        WideCell x = Start.FULL_OF_RANGES.make();
        Check.answers("those that copy 0 has of the eight", 4, x.tombstones(0, WideCell.RANGE));
        Check.answers("those that copy 2 has of the eight", 4, x.tombstones(2, WideCell.RANGE));
        x.deleteRange(7, 0, 0, 0);
        Check.answers("one that copy 0 had not, with the least stamp", 5, x.tombstones(0, WideCell.RANGE));
        x.setUp(0, false);
        x.deleteRow(1, 0, 0);
        Check.answers("down", 5, x.tombstones(0, WideCell.RANGE));
        Check.answers("a hint does not count", 0, x.tombstones(0, WideCell.ROW));
        x.setUp(0, true);
        x.setGrace(0);
        x.clean(0);
        Check.answers("dropped", 0, x.tombstones(0, WideCell.RANGE));
    }

    static void tombstonesThrowsForCopy() {
        Doc.says(TOMBSTONES, "Throws `IndexOutOfBoundsException` if there is no such copy");
        for (int copy : Refused.farFrom(0, 2)) {
            Refused.index("copy " + copy, x -> x.tombstones(copy, WideCell.RANGE));
            Refused.index("copy and reach " + copy, x -> x.tombstones(copy, copy));
        }
    }

    static void tombstonesThrowsForReach() {
        Doc.says(TOMBSTONES, "Throws `IllegalArgumentException` if reach is out of range");
        for (int reach : Refused.farFrom(WideCell.CELL, WideCell.RANGE)) {
            Refused.argument("reach " + reach, x -> x.tombstones(2, reach));
        }
    }

    // ---- entries

    static void entriesVisibleOrNot() {
        Doc.says(ENTRIES, "Returns how many entries a copy has, visible or not.");
        WideCell x = new WideCell();
        Check.answers("none", 0, x.entries(1));
        x.write(2, 0, 0, 0, 0, 0);
        x.write(2, 0, 1, 1, 1, 1);
        x.write(2, 15, 3, 2, 2, 1);
        x.deleteRow(2, 15, 2);
        Check.answers("visible and covered", 3, x.entries(1));
        x.pass(1);
        Check.answers("visible, expired, and both", 3, x.entries(1));
        x.setUp(1, false);
        x.write(2, 5, 1, 1, 1, 0);
        Check.answers("down, a hint does not count", 3, x.entries(1));
        x.setUp(1, true);
        Check.answers("up", 4, x.entries(1));
        x.clean(1);
        Check.answers("the covered one is dropped", 3, x.entries(1));
    }

    static void entriesCopy() {
        Doc.says(ENTRIES, "`copy`: 0 to 2");
        WideCell x = new WideCell();
        for (int row = 0; row <= 2; row++) {
            x.write(7 >> row, row, 0, 0, 0, 0);
        }
        for (int copy = 0; copy <= 2; copy++) {
            Check.answers("copy " + copy, 3 - copy, x.entries(copy));
        }
        for (int copy : Refused.beside(0, 2)) {
            Refused.index("copy " + copy, y -> y.entries(copy));
        }
    }

    static void entriesReturns() {
        Doc.says(ENTRIES, "Returns how many.");
        WideCell x = new WideCell();
        for (int cell = 0; cell < 64; cell++) {
            Check.answers("before cell " + cell, cell, x.entries(2));
            x.write(4, cell / 4, cell % 4, 0, 0, 0);
            x.write(4, cell / 4, cell % 4, 1, 1, 0);
        }
        Check.answers("full", 64, x.entries(2));
        Check.answers("another copy", 0, x.entries(1));
    }

    static void entriesThrows() {
        Doc.says(ENTRIES, "Throws `IndexOutOfBoundsException` if there is no such copy");
        for (int copy : Refused.farFrom(0, 2)) {
            Refused.index("copy " + copy, x -> x.entries(copy));
        }
    }

    // ---- ideal

    static void idealCopy() {
        Doc.says(IDEAL, "Returns the value of a cell at the ideal copy.");
        WideCell x = new WideCell();
        x.write(0, 3, 1, 9, 9, 0);
        Check.answers("at no other copy", 9, x.ideal(3, 1));
        x.setUp(0, false);
        for (int i = 0; i < 11; i++) {
            x.write(1, 3, 1, i, 10 + i, 0);
        }
        Check.answers("what is lost for another copy", 10, x.ideal(3, 1));
        x.write(1, 3, 1, 999, 19, 0);
        Check.answers("what is worse", 10, x.ideal(3, 1));
        x.write(0, 4, 1, 7, 20, 0);
        x.deleteRange(0, 0, 3, 20);
        Check.answers("covered", WideCell.NONE, x.ideal(3, 1));
        Check.answers("beside what is covered", 7, x.ideal(4, 1));
    }

    static void idealRow() {
        Doc.says(IDEAL, "`row`: 0 to 15");
        checkCell(true, (x, copy, row, column) -> x.ideal(row, column));
    }

    static void idealColumn() {
        Doc.says(IDEAL, "`column`: 0 to 3");
        checkCell(false, (x, copy, row, column) -> x.ideal(row, column));
    }

    static void idealReturns() {
        Doc.says(IDEAL, "Returns the value; NONE if no entry is visible.");
        WideCell x = new WideCell();
        Check.answers("no entry", WideCell.NONE, x.ideal(3, 1));
        x.write(7, 3, 1, 0, 0, 2);
        Check.answers("the least", 0, x.ideal(3, 1));
        x.write(7, 3, 1, 999, 0, 2);
        Check.answers("the greatest", 999, x.ideal(3, 1));
        x.pass(1);
        Check.answers("before its end", 999, x.ideal(3, 1));
        x.pass(1);
        Check.answers("at its end", WideCell.NONE, x.ideal(3, 1));
        x.write(7, 3, 1, 5, 6, 0);
        x.deleteCell(7, 3, 1, 5);
        Check.answers("one stamp above the tombstone", 5, x.ideal(3, 1));
        x.deleteCell(7, 3, 1, 6);
        Check.answers("the stamp of the tombstone", WideCell.NONE, x.ideal(3, 1));
    }

    static void idealThrows() {
        Doc.says(IDEAL, "Throws `IndexOutOfBoundsException` if there is no such row or column");
        refuseRows(Refused.farFrom(0, 15), (x, copy, row, column) -> x.ideal(row, column));
        refuseColumns(Refused.farFrom(0, 3), (x, copy, row, column) -> x.ideal(row, column));
        Refused.index("row 0, column 5", x -> x.ideal(0, 5));
        Refused.index("row -1, column 4", x -> x.ideal(-1, 4));
        Refused.index("row 16, column -1", x -> x.ideal(16, -1));
    }
}
