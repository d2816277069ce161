/** Promises 1 to 6: a new object, and what writes and deletes. */
public final class WritingTest {
    private WritingTest() {
    }

    public static void main(String[] args) {
        aNewObject();
        objectsShareNothing();
        writeGoesToASet();
        writeEdges();
        writeLife();
        betterEntry();
        writeWrongly();
        deleteCell();
        deleteCellWrongly();
        tombstoneStampEdge();
        betterTombstone();
        deleteColumn();
        deleteRow();
        deleteRange();
        rangesAreKeptApart();
        rangesAreAtMostEight();
        deleteRangeWrongly();
        firstNamedException();
        wrongCallsChangeNothing();
        Check.end("WritingTest");
    }

    private static void aNewObject() {
        WideCell x = new WideCell();
        Check.answers("1: time", 0, x.time());
        Check.answers("1: repairs", 0, x.repairs());
        for (int copy = 0; copy < 3; copy++) {
            Check.holds("1: up " + copy, x.isUp(copy));
            Check.answers("1: hints " + copy, 0, x.hints(copy));
            Check.answers("1: entries " + copy, 0, x.entries(copy));
            Check.answers("1: sum " + copy, 0, x.sumOf(copy, 0, 0));
            Check.answers("1: stamp " + copy, WideCell.NONE, x.stampAt(copy, 0, 0));
            Check.answers("1: buried " + copy, WideCell.NONE, x.buriedBy(copy, 0, 0));
            for (int reach = 0; reach < 4; reach++) {
                Check.answers("1: tombstones " + copy + " " + reach, 0, x.tombstones(copy, reach));
            }
        }
        for (int row = 0; row < 16; row++) {
            for (int column = 0; column < 4; column++) {
                Check.answers("1: value", WideCell.NONE, x.valueAt(row % 3, row, column));
                Check.answers("1: ideal", WideCell.NONE, x.ideal(row, column));
            }
        }
        Check.answers("1: grace", 10, x.setGrace(10));
    }

    private static void objectsShareNothing() {
        WideCell x = new WideCell();
        x.write(7, 0, 0, 1, 1, 0);
        x.deleteRange(7, 1, 2, 3);
        Check.same("1: another object", Snapshot.of(new WideCell()), Snapshot.of(new WideCell()));
        Check.answers("1: another object's entries", 0, new WideCell().entries(0));
    }

    private static void writeGoesToASet() {
        for (int set = 0; set < 8; set++) {
            WideCell x = new WideCell();
            Check.answers("2: set " + set, Integer.bitCount(set), x.write(set, 4, 2, 50, 3, 0));
            for (int copy = 0; copy < 3; copy++) {
                boolean isIn = (set & 1 << copy) != 0;
                Check.answers("2: value of " + copy + " in " + set, isIn ? 50 : -1, x.valueAt(copy, 4, 2));
                Check.answers("2: stamp of " + copy + " in " + set, isIn ? 3 : -1, x.stampAt(copy, 4, 2));
            }
            Check.answers("2: ideal, set " + set, 50, x.ideal(4, 2));
            x.setUp(1, false);
            int upInSet = Integer.bitCount(set & 5);
            Check.answers("2: how many are up, set " + set, upInSet, x.write(set, 4, 3, 60, 3, 0));
            Check.answers("2: down copy, set " + set, -1, x.valueAt(1, 4, 3));
            Check.answers("2: hint, set " + set, set >> 1 & 1, x.hints(1));
            Check.answers("2: ideal when down, set " + set, 60, x.ideal(4, 3));
        }
    }

    private static void writeEdges() {
        WideCell x = new WideCell();
        x.write(7, 0, 0, 0, 0, 0);
        x.write(7, 15, 3, 999, 999, 1000);
        Check.answers("2: value 0", 0, x.valueAt(0, 0, 0));
        Check.answers("2: stamp 0", 0, x.stampAt(0, 0, 0));
        Check.answers("2: value 999", 999, x.valueAt(0, 15, 3));
        Check.answers("2: stamp 999", 999, x.stampAt(0, 15, 3));
        Check.answers("2: two cells", 2, x.entries(0));
        Check.answers("2: another cell", -1, x.valueAt(0, 15, 2));
    }

    private static void writeLife() {
        WideCell x = new WideCell();
        x.pass(5);
        x.write(7, 0, 0, 1, 1, 1);
        x.write(7, 0, 1, 2, 1, 2);
        x.write(7, 0, 2, 3, 1, 0);
        x.write(7, 0, 3, 4, 1, 1000);
        Check.answers("2: life 1 now", 1, x.valueAt(0, 0, 0));
        x.pass(1);
        Check.answers("2: life 1 after 1", -1, x.valueAt(0, 0, 0));
        Check.answers("2: life 1 after 1, ideal", -1, x.ideal(0, 0));
        Check.answers("2: life 2 after 1", 2, x.valueAt(0, 0, 1));
        x.pass(1);
        Check.answers("2: life 2 after 2", -1, x.valueAt(0, 0, 1));
        for (int i = 0; i < 9; i++) {
            x.pass(100);
        }
        x.pass(97);
        Check.answers("2: life 1000 after 999", 4, x.valueAt(0, 0, 3));
        x.pass(1);
        Check.answers("2: life 1000 after 1000", -1, x.valueAt(0, 0, 3));
        Check.answers("2: for ever", 3, x.valueAt(0, 0, 2));
        Check.answers("2: expired is kept", 4, x.entries(0));
        Check.answers("2: expired has its stamp", 1, x.stampAt(0, 0, 3));
    }

    private static void betterEntry() {
        WideCell x = new WideCell();
        x.write(1, 7, 1, 5, 5, 10);
        x.write(1, 7, 1, 900, 4, 0);
        Check.answers("2: less stamp", 5, x.valueAt(0, 7, 1));
        x.write(1, 7, 1, 4, 5, 0);
        Check.answers("2: same stamp, less value", 5, x.valueAt(0, 7, 1));
        x.write(1, 7, 1, 6, 5, 8);
        Check.answers("2: same stamp, greater value", 6, x.valueAt(0, 7, 1));
        x.write(1, 7, 1, 6, 5, 7);
        Check.answers("2: less end", 31 * 5 + 7 * 6 + 8 + 1 + 1, x.sumOf(0, 4, 7));
        x.write(1, 7, 1, 6, 5, 9);
        Check.answers("2: greater end", 31 * 5 + 7 * 6 + 9 + 1 + 1, x.sumOf(0, 4, 7));
        x.write(1, 7, 1, 6, 5, 0);
        Check.answers("2: no end", 31 * 5 + 7 * 6 + 20000 + 1 + 1, x.sumOf(0, 4, 7));
        x.write(1, 7, 1, 6, 5, 1000);
        Check.answers("2: an end after no end", 31 * 5 + 7 * 6 + 20000 + 1 + 1, x.sumOf(0, 4, 7));
        x.write(1, 7, 1, 0, 6, 1);
        Check.answers("2: greater stamp", 0, x.valueAt(0, 7, 1));
        Check.answers("2: one entry a cell", 1, x.entries(0));
    }

    private static void writeWrongly() {
        WideCell x = new WideCell();
        Check.noIndex("2: row -1", () -> x.write(7, -1, 0, 0, 0, 0));
        Check.noIndex("2: row 16", () -> x.write(7, 16, 0, 0, 0, 0));
        Check.noIndex("2: column -1", () -> x.write(7, 0, -1, 0, 0, 0));
        Check.noIndex("2: column 4", () -> x.write(7, 0, 4, 0, 0, 0));
        Check.noArgument("2: copies -1", () -> x.write(-1, 0, 0, 0, 0, 0));
        Check.noArgument("2: copies 8", () -> x.write(8, 0, 0, 0, 0, 0));
        Check.noArgument("2: value -1", () -> x.write(7, 0, 0, -1, 0, 0));
        Check.noArgument("2: value 1000", () -> x.write(7, 0, 0, 1000, 0, 0));
        Check.noArgument("2: stamp -1", () -> x.write(7, 0, 0, 0, -1, 0));
        Check.noArgument("2: stamp 1000", () -> x.write(7, 0, 0, 0, 1000, 0));
        Check.noArgument("2: life -1", () -> x.write(7, 0, 0, 0, 0, -1));
        Check.noArgument("2: life 1001", () -> x.write(7, 0, 0, 0, 0, 1001));
    }

    private static void deleteCell() {
        WideCell x = new WideCell();
        x.write(7, 2, 1, 8, 5, 0);
        x.write(7, 2, 2, 9, 5, 0);
        x.write(7, 3, 1, 10, 5, 0);
        x.setUp(2, false);
        Check.answers("3: up of all", 2, x.deleteCell(7, 2, 1, 5));
        Check.answers("3: deleted", -1, x.valueAt(0, 2, 1));
        Check.answers("3: a copy that is down", 8, x.valueAt(2, 2, 1));
        Check.answers("3: its hint", 1, x.hints(2));
        Check.answers("3: ideal", -1, x.ideal(2, 1));
        Check.answers("3: next column", 9, x.valueAt(0, 2, 2));
        Check.answers("3: next row", 10, x.valueAt(0, 3, 1));
        Check.answers("3: tombstones", 1, x.tombstones(0, WideCell.CELL));
        Check.answers("3: no others", 0, x.tombstones(0, WideCell.ROW));
        Check.answers("3: empty set", 0, x.deleteCell(0, 3, 1, 5));
        Check.answers("3: empty set, copy", 10, x.valueAt(0, 3, 1));
        Check.answers("3: empty set, ideal", -1, x.ideal(3, 1));
        Check.answers("3: stamp 0", 2, x.deleteCell(7, 0, 0, 0));
        Check.answers("3: buried by 0", 0, x.buriedBy(1, 0, 0));
        Check.answers("3: stamp 999, last cell", 1, x.deleteCell(2, 15, 3, 999));
        Check.answers("3: buried by 999", 999, x.buriedBy(1, 15, 3));
        Check.answers("3: not there", -1, x.buriedBy(0, 15, 3));
    }

    private static void deleteCellWrongly() {
        WideCell x = new WideCell();
        Check.noIndex("3: row -1", () -> x.deleteCell(7, -1, 0, 0));
        Check.noIndex("3: row 16", () -> x.deleteCell(7, 16, 0, 0));
        Check.noIndex("3: column -1", () -> x.deleteCell(7, 0, -1, 0));
        Check.noIndex("3: column 4", () -> x.deleteCell(7, 0, 4, 0));
        Check.noArgument("3: copies -1", () -> x.deleteCell(-1, 0, 0, 0));
        Check.noArgument("3: copies 8", () -> x.deleteCell(8, 0, 0, 0));
        Check.noArgument("3: stamp -1", () -> x.deleteCell(7, 0, 0, -1));
        Check.noArgument("3: stamp 1000", () -> x.deleteCell(7, 0, 0, 1000));
    }

    private static void tombstoneStampEdge() {
        WideCell x = new WideCell();
        x.write(7, 0, 0, 8, 5, 0);
        x.deleteCell(7, 0, 0, 4);
        Check.answers("3: less stamp does not cover", 8, x.valueAt(0, 0, 0));
        x.deleteCell(7, 0, 0, 5);
        Check.answers("3: same stamp covers", -1, x.valueAt(0, 0, 0));
        x.write(7, 0, 0, 9, 6, 0);
        Check.answers("3: written later with a greater stamp", 9, x.valueAt(0, 0, 0));
        x.deleteCell(7, 1, 1, 50);
        x.write(7, 1, 1, 3, 50, 0);
        Check.answers("3: written under a tombstone", -1, x.valueAt(0, 1, 1));
        Check.answers("3: but it is there", 50, x.stampAt(0, 1, 1));
    }

    private static void betterTombstone() {
        WideCell x = new WideCell();
        x.deleteCell(1, 6, 2, 50);
        Check.answers("3: sum", 13 * 50 + 3 + 2, x.sumOf(0, 4, 6));
        x.pass(7);
        x.deleteCell(1, 6, 2, 49);
        Check.answers("3: less stamp, later", 13 * 50 + 3 + 2, x.sumOf(0, 4, 6));
        x.deleteCell(1, 6, 2, 50);
        Check.answers("3: same stamp, later", 13 * 50 + 5 * 7 + 3 + 2, x.sumOf(0, 4, 6));
        x.pass(1);
        x.deleteCell(1, 6, 2, 51);
        Check.answers("3: greater stamp", 13 * 51 + 5 * 8 + 3 + 2, x.sumOf(0, 4, 6));
        Check.answers("3: one for each reach", 1, x.tombstones(0, WideCell.CELL));
    }

    private static void deleteColumn() {
        WideCell x = new WideCell();
        for (int row = 0; row < 16; row++) {
            x.write(7, row, 2, row, 5, 0);
            x.write(7, row, 3, row, 5, 0);
        }
        x.setUp(0, false);
        Check.answers("4: up of two", 1, x.deleteColumn(3, 2, 5));
        for (int row = 0; row < 16; row++) {
            Check.answers("4: deleted in row " + row, -1, x.valueAt(1, row, 2));
            Check.answers("4: ideal in row " + row, -1, x.ideal(row, 2));
            Check.answers("4: next column in row " + row, row, x.valueAt(1, row, 3));
            Check.answers("4: hint only, row " + row, row, x.valueAt(0, row, 2));
            Check.answers("4: not in the set, row " + row, row, x.valueAt(2, row, 2));
        }
        Check.answers("4: tombstones", 1, x.tombstones(1, WideCell.COLUMN));
        Check.answers("4: no cell's", 0, x.tombstones(1, WideCell.CELL));
        Check.answers("4: hint", 1, x.hints(0));
        Check.answers("4: column 0, stamp 0", 2, x.deleteColumn(7, 0, 0));
        Check.answers("4: column 3, stamp 999", 0, x.deleteColumn(0, 3, 999));
        Check.noIndex("4: column -1", () -> x.deleteColumn(7, -1, 0));
        Check.noIndex("4: column 4", () -> x.deleteColumn(7, 4, 0));
        Check.noArgument("4: copies -1", () -> x.deleteColumn(-1, 0, 0));
        Check.noArgument("4: copies 8", () -> x.deleteColumn(8, 0, 0));
        Check.noArgument("4: stamp -1", () -> x.deleteColumn(7, 0, -1));
        Check.noArgument("4: stamp 1000", () -> x.deleteColumn(7, 0, 1000));
    }

    private static void deleteRow() {
        WideCell x = new WideCell();
        for (int column = 0; column < 4; column++) {
            x.write(7, 9, column, column, 5, 0);
            x.write(7, 8, column, column, 5, 0);
            x.write(7, 10, column, column, 5, 0);
        }
        x.setUp(1, false);
        Check.answers("5: up of two", 1, x.deleteRow(6, 9, 6));
        for (int column = 0; column < 4; column++) {
            Check.answers("5: deleted " + column, -1, x.valueAt(2, 9, column));
            Check.answers("5: ideal " + column, -1, x.ideal(9, column));
            Check.answers("5: row before " + column, column, x.valueAt(2, 8, column));
            Check.answers("5: row after " + column, column, x.valueAt(2, 10, column));
            Check.answers("5: down " + column, column, x.valueAt(1, 9, column));
            Check.answers("5: not in the set " + column, column, x.valueAt(0, 9, column));
        }
        Check.answers("5: tombstones", 1, x.tombstones(2, WideCell.ROW));
        Check.answers("5: no range's", 0, x.tombstones(2, WideCell.RANGE));
        Check.answers("5: hint", 1, x.hints(1));
        Check.answers("5: row 0, stamp 0", 2, x.deleteRow(7, 0, 0));
        Check.answers("5: row 15, stamp 999", 0, x.deleteRow(0, 15, 999));
        Check.noIndex("5: row -1", () -> x.deleteRow(7, -1, 0));
        Check.noIndex("5: row 16", () -> x.deleteRow(7, 16, 0));
        Check.noArgument("5: copies -1", () -> x.deleteRow(-1, 0, 0));
        Check.noArgument("5: copies 8", () -> x.deleteRow(8, 0, 0));
        Check.noArgument("5: stamp -1", () -> x.deleteRow(7, 0, -1));
        Check.noArgument("5: stamp 1000", () -> x.deleteRow(7, 0, 1000));
    }

    private static void deleteRange() {
        WideCell x = new WideCell();
        for (int row = 0; row < 16; row++) {
            x.write(7, row, 0, row, 5, 0);
            x.write(7, row, 3, row, 5, 0);
        }
        x.setUp(2, false);
        Check.answers("6: up of all", 2, x.deleteRange(7, 4, 11, 5));
        for (int row = 0; row < 16; row++) {
            int want = row >= 4 && row <= 11 ? -1 : row;
            Check.answers("6: column 0, row " + row, want, x.valueAt(0, row, 0));
            Check.answers("6: column 3, row " + row, want, x.valueAt(1, row, 3));
            Check.answers("6: ideal, row " + row, want, x.ideal(row, 0));
            Check.answers("6: down, row " + row, row, x.valueAt(2, row, 0));
        }
        Check.answers("6: hint", 1, x.hints(2));
        Check.answers("6: tombstones", 1, x.tombstones(0, WideCell.RANGE));
        Check.answers("6: one row", 1, x.deleteRange(1, 0, 0, 999));
        Check.answers("6: one row, deleted", -1, x.valueAt(0, 0, 0));
        Check.answers("6: one row, the next", 1, x.valueAt(0, 1, 0));
        Check.answers("6: a range is no row", 0, x.tombstones(0, WideCell.ROW));
        Check.answers("6: all rows, stamp 0", 1, x.deleteRange(2, 0, 15, 0));
        Check.answers("6: all rows, first", 0, x.buriedBy(1, 0, 0));
        Check.answers("6: all rows, last", 0, x.buriedBy(1, 15, 0));
        Check.answers("6: last row alone", 0, x.deleteRange(0, 15, 15, 7));
        Check.answers("6: empty set goes to the ideal copy", -1, x.ideal(15, 3));
    }

    private static void rangesAreKeptApart() {
        WideCell x = new WideCell();
        x.deleteRange(1, 2, 5, 10);
        x.deleteRange(1, 5, 8, 20);
        x.deleteRange(1, 2, 8, 5);
        Check.answers("6: three ranges", 3, x.tombstones(0, WideCell.RANGE));
        Check.answers("6: the greatest where they meet", 20, x.buriedBy(0, 5, 0));
        Check.answers("6: first", 10, x.buriedBy(0, 4, 0));
        Check.answers("6: second", 20, x.buriedBy(0, 8, 0));
        Check.answers("6: before all", -1, x.buriedBy(0, 1, 0));
        Check.answers("6: after all", -1, x.buriedBy(0, 9, 0));
        x.deleteRange(1, 2, 5, 11);
        Check.answers("6: the same range again", 3, x.tombstones(0, WideCell.RANGE));
        Check.answers("6: with a better stamp", 11, x.buriedBy(0, 2, 0));
        x.deleteRange(1, 2, 5, 3);
        Check.answers("6: with a worse stamp", 11, x.buriedBy(0, 2, 0));
    }

    private static void rangesAreAtMostEight() {
        WideCell x = new WideCell();
        x.setGrace(0);
        x.setUp(1, false);
        for (int from = 0; from < 7; from++) {
            x.deleteRange(from % 3, from, 15 - from, from);
            x.deleteRange(1, from, 15 - from, from);
        }
        x.deleteRange(0, 3, 3, 1);
        Check.noState("6: the ninth range", () -> x.deleteRange(7, 3, 4, 1));
        Check.answers("6: the eighth again", 2, x.deleteRange(7, 3, 3, 1));
        Check.answers("6: the first again", 2, x.deleteRange(7, 0, 15, 1));
        x.clean(0);
        Check.answers("6: none after cleaning", 0, x.tombstones(0, WideCell.RANGE));
        x.loseHints(1);
        Check.noState("6: ranges count for ever", () -> x.deleteRange(0, 0, 14, 1));
        Check.answers("6: an old one comes back", 1, x.deleteRange(1, 6, 9, 5));
        Check.answers("6: it is there", 5, x.buriedBy(0, 9, 3));
    }

    private static void deleteRangeWrongly() {
        WideCell x = new WideCell();
        Check.noIndex("6: from -1", () -> x.deleteRange(7, -1, 0, 0));
        Check.noIndex("6: from 16", () -> x.deleteRange(7, 16, 16, 0));
        Check.noIndex("6: to -1", () -> x.deleteRange(7, 0, -1, 0));
        Check.noIndex("6: to 16", () -> x.deleteRange(7, 0, 16, 0));
        Check.noArgument("6: to before from", () -> x.deleteRange(7, 8, 7, 0));
        Check.noArgument("6: copies -1", () -> x.deleteRange(-1, 0, 0, 0));
        Check.noArgument("6: copies 8", () -> x.deleteRange(8, 0, 0, 0));
        Check.noArgument("6: stamp -1", () -> x.deleteRange(7, 0, 0, -1));
        Check.noArgument("6: stamp 1000", () -> x.deleteRange(7, 0, 0, 1000));
        for (int row = 0; row < 8; row++) {
            Check.answers("6: a wrong call keeps no range, " + row, 3, x.deleteRange(7, row, row, 0));
        }
    }

    private static void firstNamedException() {
        WideCell x = new WideCell();
        Check.noIndex("2: row and copies", () -> x.write(8, 16, 0, 0, 0, 0));
        Check.noIndex("2: column and life", () -> x.write(0, 0, 4, 0, 0, 1001));
        Check.noIndex("3: column and stamp", () -> x.deleteCell(7, 0, 4, 1000));
        Check.noIndex("4: column and copies", () -> x.deleteColumn(8, 4, 0));
        Check.noIndex("5: row and copies", () -> x.deleteRow(8, 16, 0));
        Check.noIndex("6: to -1 is no row, and less than from", () -> x.deleteRange(8, 5, -1, 0));
        for (int row = 0; row < 8; row++) {
            x.deleteRange(0, row, row, 0);
        }
        Check.noIndex("6: no room, and no row", () -> x.deleteRange(7, 0, 16, 0));
        Check.noArgument("6: no room, and a wrong stamp", () -> x.deleteRange(7, 0, 9, 1000));
        Check.noArgument("6: no room, and to before from", () -> x.deleteRange(7, 9, 0, 0));
        Check.noArgument("6: no room, and a wrong set", () -> x.deleteRange(8, 0, 9, 0));
    }

    private static void wrongCallsChangeNothing() {
        WideCell x = new WideCell();
        for (int row = 0; row < 8; row++) {
            x.deleteRange(7, row, row, 0);
        }
        x.setUp(0, false);
        WideCell twin = new WideCell();
        for (int row = 0; row < 8; row++) {
            twin.deleteRange(7, row, row, 0);
        }
        twin.setUp(0, false);
        Check.noArgument("2: wrong life", () -> x.write(7, 0, 0, 5, 5, 1001));
        Check.noArgument("3: wrong stamp", () -> x.deleteCell(7, 0, 0, 1000));
        Check.noIndex("4: wrong column", () -> x.deleteColumn(7, 4, 5));
        Check.noIndex("5: wrong row", () -> x.deleteRow(7, 16, 5));
        Check.noState("6: no room", () -> x.deleteRange(7, 0, 15, 5));
        Check.same("2 to 6: wrong calls change nothing", Snapshot.of(twin), Snapshot.of(x));
    }
}
