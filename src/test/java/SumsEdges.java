/** The sentences under Sums, and the promises 24 to 27. */
final class SumsEdges {
    private static final String SUMS = "Sums";
    private static final String SUM_OF = "Promise 24";
    private static final String COMPARED = "Promise 25";
    private static final String UNLIKE = "Promise 26";
    private static final String ARE_ALIKE = "Promise 27";
    private static final int MODULUS = 65521;

    private SumsEdges() {
    }

    // ---- sums of rows

    static void sumOfAnEntry() {
        Doc.says(SUMS, "for the entry of each cell of the row, 31 times the stamp, 7 times the value, the end, or "
                + "20000 for NEVER, and the column, together, and 1 more");
        // A column, a value, a stamp and a life, written at first and at the last time, and their sums.
        int[][] entries = {
            {0, 0, 0, 1, 1 + 1, 10001 + 1}, {3, 0, 0, 1, 1 + 3 + 1, 10001 + 3 + 1},
            {0, 0, 0, 0, 20000 + 1, 20000 + 1}, {0, 0, 1, 0, 31 + 20000 + 1, 31 + 20000 + 1},
            {0, 1, 0, 0, 7 + 20000 + 1, 7 + 20000 + 1}, {1, 0, 0, 1000, 1000 + 1 + 1, 11000 + 1 + 1},
            {3, 999, 999, 1000, 38 * 999 + 1000 + 3 + 1, 38 * 999 + 11000 + 3 + 1},
            {3, 999, 999, 0, 38 * 999 + 20000 + 3 + 1, 38 * 999 + 20000 + 3 + 1},
        };
        for (int[] entry : entries) {
            for (int i = 0; i < 2; i++) {
                WideCell x = new WideCell();
                Start.passTo(x, 10000 * i);
                x.write(1, 5, entry[0], entry[1], entry[2], entry[3]);
                Check.answers("column " + entry[0] + ", value " + entry[1] + ", stamp " + entry[2] + ", life "
                        + entry[3], entry[4 + i], x.sumOf(0, 4, 5));
            }
        }
        WideCell x = new WideCell();
        Check.answers("no entry", 0, x.sumOf(0, 4, 5));
        for (int column = 0; column < 4; column++) {
            x.write(1, 5, column, 0, 0, 1);
        }
        Check.answers("all cells of a row", 4 * 2 + 1 + 2 + 3, x.sumOf(0, 4, 5));
        x.pass(1);
        x.deleteRow(1, 5, 0);
        Check.answers("expired and covered ones too", 4 * 2 + 1 + 2 + 3 + 5 + 7, x.sumOf(0, 4, 5));
    }

    static void sumOfATombstone() {
        Doc.says(SUMS, "for each tombstone that covers some cell of the row, 13 times its stamp, 5 times the time at "
                + "which it was made, and 3 for a CELL, 5 for a COLUMN, 7 for a ROW or 11 for a RANGE, together");
        for (int time = 0; time <= 2; time++) {
            for (int stamp = 0; stamp <= 2; stamp++) {
                int common = 13 * stamp + 5 * time;
                WideCell x = new WideCell();
                Start.passTo(x, time);
                x.deleteCell(1, 0, 0, stamp);
                Check.answers("CELL", common + 3, x.sumOf(0, 4, 0));
                x.deleteColumn(2, 0, stamp);
                Check.answers("COLUMN", common + 5, x.sumOf(1, 4, 0));
                x.deleteRow(4, 0, stamp);
                Check.answers("ROW", common + 7, x.sumOf(2, 4, 0));
                x.deleteRange(4, 0, 0, stamp);
                Check.answers("ROW and RANGE", 2 * common + 7 + 11, x.sumOf(2, 4, 0));
            }
        }
    }

    static void sumsOfTheRowsThatAreCovered() {
        Doc.says(SUMS, "for each tombstone that covers some cell of the row");
        for (int row = 0; row < 16; row++) {
            WideCell x = new WideCell();
            x.deleteCell(1, 15, 3, 0);
            x.deleteColumn(1, 3, 0);
            x.deleteRow(2, 0, 0);
            x.deleteRow(2, 14, 0);
            x.deleteRange(4, 0, 2, 0);
            x.deleteRange(4, 5, 5, 0);
            x.deleteRange(4, 14, 15, 0);
            Check.answers("CELL and COLUMN, row " + row, row == 15 ? 6 + 8 : 8, x.sumOf(0, 4, row));
            Check.answers("ROW, row " + row, row == 0 || row == 14 ? 7 : 0, x.sumOf(1, 4, row));
            int range = row <= 2 ? 11 + 19 * 2 : row == 5 ? 11 + 36 * 5 : row >= 14 ? 11 + 17 * 14 + 19 * 15 : 0;
            Check.answers("RANGE, row " + row, range, x.sumOf(2, 4, row));
        }
    }

    static void sumOfColumnAndRange() {
        Doc.says(SUMS, "for a CELL or a COLUMN the column is added as well, for a RANGE 17 times its first row and 19 "
                + "times its last one.");
        for (int column = 0; column < 4; column++) {
            WideCell x = new WideCell();
            x.deleteCell(1, 7, column, 0);
            Check.answers("CELL in column " + column, 3 + column, x.sumOf(0, 4, 7));
            x.deleteColumn(2, column, 0);
            Check.answers("COLUMN " + column, 5 + column, x.sumOf(1, 4, 7));
        }
        int[][] ranges = {{0, 0}, {0, 1}, {1, 1}, {0, 15}, {14, 15}, {15, 15}};
        for (int[] range : ranges) {
            WideCell x = new WideCell();
            x.deleteRange(1, range[0], range[1], 0);
            int want = 11 + 17 * range[0] + 19 * range[1];
            Check.answers("RANGE " + range[0] + " to " + range[1], want, x.sumOf(0, 4, range[0]));
            Check.answers("RANGE " + range[0] + " to " + range[1] + ", last row", want, x.sumOf(0, 4, range[1]));
        }
    }

    /** Entries without an end in the first columns of a row, each with a stamp and a value. */
    private static void fillRow(WideCell x, int row, int[] stampsAndValues) {
        for (int i = 0; i + 1 < stampsAndValues.length; i += 2) {
            x.write(1, row, i / 2, stampsAndValues[i + 1], stampsAndValues[i], 0);
        }
    }

    static void rowsModulo65521() {
        Doc.says(SUMS, "The sum of a row at a copy is the sum of the following numbers, modulo 65521");
        // 20001 + 20002 = 40003 and 80010 with all four, beside 31 times the stamps and 7 times the values.
        int[][] rows = {
            {0, 0, 822, 5}, {0, 0, 820, 14}, {0, 0, 818, 23},
            {999, 999, 420, 7, 0, 0, 0, 0}, {999, 999, 418, 16, 0, 0, 0, 0}, {999, 999, 416, 25, 0, 0, 0, 0},
        };
        int[] want = {65520, 0, 1, 65520, 0, 1};
        for (int i = 0; i < rows.length; i++) {
            WideCell x = new WideCell();
            fillRow(x, 9, rows[i]);
            Check.answers("row " + i, want[i], x.sumOf(0, 4, 9));
            Check.answers("the node of all rows, row " + i, want[i], x.sumOf(0, 0, 0));
        }
    }

    /** The time is 10000, and the copies 0 and 1 have all that there can be, with the greatest numbers. */
    private static WideCell full() {
        WideCell x = new WideCell();
        Start.passTo(x, 10000);
        for (int cell = 0; cell < 64; cell++) {
            x.write(3, cell / 4, cell % 4, 999, 999, 0);
            x.deleteCell(3, cell / 4, cell % 4, 999);
        }
        for (int row = 0; row < 16; row++) {
            x.deleteRow(3, row, 999);
        }
        for (int column = 0; column < 4; column++) {
            x.deleteColumn(3, column, 999);
        }
        for (int from = 8; from < 16; from++) {
            x.deleteRange(3, from, 15, 999);
        }
        return x;
    }

    private static int sumOfFullRow(int row) {
        int burial = 13 * 999 + 5 * 10000;
        int sum = burial + 7;
        for (int column = 0; column < 4; column++) {
            sum += 38 * 999 + 20000 + column + 1 + burial + 3 + column + burial + 5 + column;
        }
        for (int from = 8; from <= row; from++) {
            sum += burial + 11 + 17 * from + 19 * 15;
        }
        return sum;
    }

    static void theFullestRow() {
        Doc.says(SUMS, "the sum of the following numbers, modulo 65521");
        WideCell x = full();
        int all = 0;
        for (int row = 0; row < 16; row++) {
            all += sumOfFullRow(row);
            Check.answers("row " + row, sumOfFullRow(row) % MODULUS, x.sumOf(1, 4, row));
        }
        Check.answers("all rows", all % MODULUS, x.sumOf(1, 0, 0));
    }

    // ---- nodes

    static void rowsOfANode() {
        Doc.says(SUMS, "A node of the level n, 0 to 4, has 16 / 2 to the power of n rows, the node i of a level from "
                + "the row i times that on");
        int[] sizes = {16, 8, 4, 2, 1};
        for (int row = 0; row < 16; row++) {
            WideCell x = new WideCell();
            x.deleteRow(1, row, row);
            for (int level = 0; level <= 4; level++) {
                for (int node = 0; node < 16 / sizes[level]; node++) {
                    boolean has = row >= node * sizes[level] && row < (node + 1) * sizes[level];
                    Check.answers("row " + row + ", level " + level + ", node " + node, has ? 13 * row + 7 : 0,
                            x.sumOf(0, level, node));
                }
            }
        }
    }

    static void nodesModulo65521() {
        Doc.says(SUMS, "its sum is that of its rows, modulo 65521.");
        // 65513, 65514 and 65515 with entries in row 0, and 7 with a tombstone in row 1.
        int[][] rows = {{0, 0, 815, 35}, {0, 0, 820, 13}, {0, 0, 818, 22}};
        int[] want = {65520, 0, 1};
        for (int i = 0; i < 3; i++) {
            WideCell x = new WideCell();
            fillRow(x, 0, rows[i]);
            x.deleteRow(1, 1, 0);
            Check.answers("row 0, " + i, 65513 + i, x.sumOf(0, 4, 0));
            Check.answers("row 1, " + i, 7, x.sumOf(0, 4, 1));
            for (int level = 0; level <= 3; level++) {
                Check.answers("level " + level + ", " + i, want[i], x.sumOf(0, level, 0));
            }
        }
        WideCell x = full();
        int all = 0;
        for (int row = 8; row < 16; row++) {
            all += sumOfFullRow(row) % MODULUS;
        }
        Check.answers("the second half of a full table", all % MODULUS, x.sumOf(0, 1, 1));
    }

    // ---- comparing

    static void levelZeroIsComparedFirst() {
        Doc.says(SUMS, "Two copies are compared like this: their nodes of the level 0 are compared by their sums");
        WideCell x = new WideCell();
        Check.answers("empty", 1, x.compared(0, 1));
        // Rows that differ, in the first and in the last row, with the same sum of all rows.
        x.deleteRow(1, 0, 5);
        x.deleteRow(2, 15, 5);
        Check.answers("the same sum", 1, x.compared(0, 1));
        Check.answers("so no row is found", 0, x.unlike(0, 1));
        Check.answers("with the third copy", 9, x.compared(0, 2));
        x = new WideCell();
        fillRow(x, 0, new int[] {0, 0, 820, 13});
        x.deleteRow(1, 1, 0);
        Check.answers("a sum of 65521 is as that of an empty copy", 1, x.compared(0, 1));
        Check.answers("and no row is found", 0, x.unlike(0, 1));
    }

    static void bothNodesOfTheNextLevel() {
        Doc.says(SUMS, "where sums of a node differ, both nodes of the next level in it are compared");
        for (int level = 0; level <= 3; level++) {
            // Rows in both halves of the first node of this level differ, but the node's sum is the same.
            int last = (16 >> level) - 1;
            WideCell x = new WideCell();
            x.deleteRow(1, 0, 5);
            x.deleteRow(2, last, 5);
            Check.answers("hidden at level " + level, 1, x.compared(0, 1));
            if (level > 0) {
                x.deleteRow(1, 15, 9);
                Check.answers("another row, hidden at level " + level, 9, x.compared(0, 1));
                Check.answers("the other row alone, level " + level, 1 << 15, x.unlike(0, 1));
            }
            x.deleteColumn(1, 3, 9);
            Check.answers("a difference in all rows, level " + level, 31, x.compared(0, 1));
            Check.answers("all rows, level " + level, 65535, x.unlike(0, 1));
        }
        WideCell x = new WideCell();
        x.deleteRow(1, 0, 5);
        x.deleteRow(2, 7, 5);
        x.deleteRow(1, 1, 9);
        Check.answers("no node hides them any more", 1 + 2 + 2 + 4 + 4, x.compared(0, 1));
        Check.answers("three rows", 1 | 1 << 1 | 1 << 7, x.unlike(0, 1));
    }

    static void downToLevelFour() {
        Doc.says(SUMS, "down to level 4, where a node is a row.");
        for (int row = 0; row < 16; row++) {
            WideCell x = new WideCell();
            x.deleteCell(1, row, 3, 0);
            Check.answers("row " + row, 1 + 2 + 2 + 2 + 2, x.compared(0, 1));
            Check.answers("found is row " + row, 1 << row, x.unlike(0, 1));
            x.deleteCell(1, row ^ 1, 3, 0);
            Check.answers("both rows of a node with " + row, 9, x.compared(0, 1));
            Check.answers("found are both", 1 << row | 1 << (row ^ 1), x.unlike(0, 1));
        }
    }

    static void comparedOnce() {
        Doc.says(SUMS, "To make two copies alike, they are compared once");
        WideCell x = new WideCell();
        // In row 4 the sum of the range, 11 + 17 * 3 + 19 * 4, is that of the entry, so only row 3 differs.
        x.deleteRange(1, 3, 4, 0);
        x.write(2, 4, 0, 0, 0, 137);
        Check.answers("row 3 alone", 1, x.makeAlike(0, 1));
        Check.answers("its tombstone covers row 4 too", 0, x.buriedBy(1, 4, 3));
        Check.answers("so row 4 differs now, but its entry is not taken", 0, x.entries(0));
        Check.fails("not alike yet", x.areAlike(0, 1));
        Check.answers("comparing again finds row 4", 1, x.makeAlike(1, 0));
        Check.holds("alike", x.areAlike(0, 1));
        x.deleteColumn(1, 0, 0);
        Check.answers("rows that differed, though the first brings all of it", 16, x.makeAlike(0, 1));
    }

    static void allOfEachRowThatDiffered() {
        Doc.says(SUMS, "then for each row whose sums differed, each copy takes all entries of the row, and all "
                + "tombstones that cover some cell of it, of the other one.");
        WideCell x = new WideCell();
        for (int column = 0; column < 4; column++) {
            x.write(1 << column % 2, 15, column, column, 7, column % 2);
            x.deleteCell(1 << column / 2, 15, column, column);
        }
        x.deleteRow(1, 15, 4);
        x.deleteRange(2, 15, 15, 5);
        x.deleteRange(1, 14, 15, 6);
        // Rows 2 and 3 differ too, but what they have is hidden by the sum of their node.
        x.deleteRow(1, 2, 9);
        x.deleteRow(2, 3, 9);
        Check.answers("rows 14 and 15", 2, x.makeAlike(0, 1));
        for (int copy = 0; copy < 2; copy++) {
            Check.answers("entries at " + copy, 4, x.entries(copy));
            Check.answers("CELL at " + copy, 4, x.tombstones(copy, WideCell.CELL));
            Check.answers("RANGE at " + copy, 2, x.tombstones(copy, WideCell.RANGE));
            Check.answers("ROW at " + copy + ", that of 15 and a hidden one", 2, x.tombstones(copy, WideCell.ROW));
            Check.answers("value at " + copy, 3, x.valueAt(copy, 15, 3));
        }
        Check.answers("a hidden row stays at one", WideCell.NONE, x.buriedBy(1, 2, 0));
        Check.answers("and at the other", WideCell.NONE, x.buriedBy(0, 3, 0));
        Check.answers("the third copy", 0, x.sumOf(2, 0, 0));
    }

    // ---- sumOf

    static void sumOfUsesTheCopy() {
        Doc.says(SUM_OF, "Returns the sum of a node at a copy.");
        WideCell x = new WideCell();
        x.deleteRow(1, 5, 1);
        Check.answers("one copy", 13 + 7, x.sumOf(0, 2, 1));
        Check.answers("another copy", 0, x.sumOf(1, 2, 1));
        x.setUp(0, false);
        x.deleteRow(1, 5, 2);
        Check.answers("down, without its hint", 13 + 7, x.sumOf(0, 2, 1));
        x.setUp(0, true);
        Check.answers("with its hint", 26 + 7, x.sumOf(0, 2, 1));
    }

    static void sumOfCopy() {
        Doc.says(SUM_OF, "`copy`: 0 to 2");
        WideCell x = new WideCell();
        for (int copy = 0; copy <= 2; copy++) {
            x.deleteRow(1 << copy, 5, copy);
        }
        for (int copy = 0; copy <= 2; copy++) {
            Check.answers("copy " + copy, 13 * copy + 7, x.sumOf(copy, 4, 5));
        }
        for (int copy : Refused.beside(0, 2)) {
            Refused.index("copy " + copy, y -> y.sumOf(copy, 0, 0));
        }
    }

    static void sumOfLevel() {
        Doc.says(SUM_OF, "`level`: 0 to 4");
        WideCell x = new WideCell();
        for (int row = 0; row < 16; row++) {
            x.deleteRow(1, row, 0);
        }
        for (int level = 0; level <= 4; level++) {
            Check.answers("level " + level, 7 * (16 >> level), x.sumOf(0, level, 0));
        }
        for (int level : Refused.beside(0, 4)) {
            Refused.index("level " + level, y -> y.sumOf(0, level, 0));
        }
    }

    static void sumOfNode() {
        Doc.says(SUM_OF, "`node`: 0 to 2 to the power of level, less 1");
        WideCell x = new WideCell();
        x.deleteRow(1, 0, 1);
        x.deleteRow(1, 15, 2);
        for (int level = 0; level <= 4; level++) {
            int first = level == 0 ? 20 + 33 : 20;
            int last = level == 0 ? 20 + 33 : 33;
            Check.answers("the first of level " + level, first, x.sumOf(0, level, 0));
            Check.answers("the last of level " + level, last, x.sumOf(0, level, (1 << level) - 1));
            int asked = level;
            for (int node : Refused.beside(0, (1 << level) - 1)) {
                Refused.index("level " + level + ", node " + node, y -> y.sumOf(0, asked, node));
            }
        }
    }

    static void sumOfReturns() {
        Doc.says(SUM_OF, "Returns 0 to 65520.");
        WideCell x = new WideCell();
        Check.answers("empty", 0, x.sumOf(0, 0, 0));
        fillRow(x, 9, new int[] {0, 0, 822, 5});
        Check.answers("the greatest", 65520, x.sumOf(0, 4, 9));
        Check.answers("the greatest, of all rows", 65520, x.sumOf(0, 0, 0));
        WideCell full = full();
        for (int level = 0; level <= 4; level++) {
            for (int node = 0; node < 1 << level; node++) {
                int sum = full.sumOf(0, level, node);
                Check.holds("level " + level + ", node " + node + ": " + sum, sum >= 0 && sum <= 65520);
            }
        }
    }

    static void sumOfThrows() {
        Doc.says(SUM_OF, "Throws `IndexOutOfBoundsException` if there is no such copy, level or node");
        for (int copy : Refused.farFrom(0, 2)) {
            Refused.index("copy " + copy, x -> x.sumOf(copy, 4, 9));
        }
        // 1 << 32 is 1 again, and 1 << 36 is 16.
        for (int level : new int[] {Integer.MIN_VALUE, -32, -28, -1, 5, 31, 32, 36, Integer.MAX_VALUE}) {
            Refused.index("level " + level, x -> x.sumOf(0, level, 0));
        }
        for (int level = 0; level <= 4; level++) {
            int asked = level;
            for (int node : Refused.farFrom(0, (1 << level) - 1)) {
                Refused.index("level " + level + ", node " + node, x -> x.sumOf(0, asked, node));
            }
        }
    }

    // ---- compared

    static void comparedCounts() {
        Doc.says(COMPARED, "Returns how many nodes are compared when two copies are.");
        WideCell x = new WideCell();
        int[] rows = {0, 1, 2, 4, 8, 15};
        int[] want = {9, 9, 11, 15, 21, 25};
        for (int i = 0; i < rows.length; i++) {
            x.deleteRow(1, rows[i], 0);
            Check.answers("with row " + rows[i], want[i], x.compared(0, 1));
            Check.answers("the other way, with row " + rows[i], want[i], x.compared(1, 0));
        }
        x.setUp(0, false);
        x.setUp(1, false);
        Check.answers("down", 25, x.compared(0, 1));
        Check.holds("nothing is taken by that", x.tombstones(1, WideCell.ROW) == 0 && x.repairs() == 0);
    }

    static void comparedCopy() {
        Doc.says(COMPARED, "`copy`: 0 to 2");
        for (int copy = 0; copy <= 2; copy++) {
            WideCell x = new WideCell();
            x.deleteRow(1 << copy, 5, 0);
            Check.answers("copy " + copy, 9, x.compared(copy, (copy + 1) % 3));
            Check.answers("not copy " + copy, 1, x.compared((copy + 1) % 3, (copy + 2) % 3));
        }
        for (int copy : Refused.beside(0, 2)) {
            Refused.index("copy " + copy, x -> x.compared(copy, 0));
        }
    }

    static void comparedOther() {
        Doc.says(COMPARED, "`other`: 0 to 2");
        for (int other = 0; other <= 2; other++) {
            WideCell x = new WideCell();
            x.deleteRow(1 << other, 5, 0);
            Check.answers("other " + other, 9, x.compared((other + 1) % 3, other));
            Check.answers("a copy and itself, " + other, 1, x.compared(other, other));
        }
        for (int other : Refused.beside(0, 2)) {
            Refused.index("other " + other, x -> x.compared(0, other));
        }
    }

    static void comparedReturns() {
        Doc.says(COMPARED, "Returns 1 to 31.");
        WideCell x = new WideCell();
        Check.answers("the least", 1, x.compared(0, 1));
        for (int row = 0; row < 16; row += 2) {
            x.deleteRow(1, row, 0);
        }
        Check.answers("a row in each node of level 3", 31, x.compared(0, 1));
        for (int row = 1; row < 16; row += 2) {
            x.deleteRow(1, row, 1);
        }
        Check.answers("all rows", 31, x.compared(0, 1));
        Check.answers("one that is full, and one that is empty", 31, full().compared(0, 2));
        Check.answers("two that are full", 1, full().compared(0, 1));
    }

    static void comparedThrows() {
        Doc.says(COMPARED, "Throws `IndexOutOfBoundsException` if there is no such copy");
        for (int copy : Refused.farFrom(0, 2)) {
            Refused.index("copy " + copy, x -> x.compared(copy, 2));
            Refused.index("other " + copy, x -> x.compared(2, copy));
            Refused.index("both " + copy, x -> x.compared(copy, copy));
        }
    }

    // ---- unlike

    static void unlikeAsItIsFound() {
        Doc.says(UNLIKE, "Returns the rows whose sums differ at two copies, as it is found by comparing them.");
        WideCell x = new WideCell();
        x.deleteRow(1, 2, 9);
        x.deleteRow(2, 3, 9);
        Check.answers("hidden by their node", 0, x.unlike(0, 1));
        x.deleteRow(1, 12, 9);
        Check.answers("row 12 is not hidden", 1 << 12, x.unlike(0, 1));
        x.deleteRow(1, 2, 10);
        Check.answers("they are not hidden any more", 1 << 12 | 1 << 2 | 1 << 3, x.unlike(0, 1));
        x.setUp(0, false);
        Check.answers("down", 1 << 12 | 1 << 2 | 1 << 3, x.unlike(0, 1));
        Check.answers("nothing is taken by that", WideCell.NONE, x.buriedBy(1, 12, 0));
    }

    static void unlikeCopy() {
        Doc.says(UNLIKE, "`copy`: 0 to 2");
        for (int copy = 0; copy <= 2; copy++) {
            WideCell x = new WideCell();
            x.deleteRow(1 << copy, 5, 0);
            Check.answers("copy " + copy, 1 << 5, x.unlike(copy, (copy + 1) % 3));
            Check.answers("not copy " + copy, 0, x.unlike((copy + 1) % 3, (copy + 2) % 3));
        }
        for (int copy : Refused.beside(0, 2)) {
            Refused.index("copy " + copy, x -> x.unlike(copy, 0));
        }
    }

    static void unlikeOther() {
        Doc.says(UNLIKE, "`other`: 0 to 2");
        for (int other = 0; other <= 2; other++) {
            WideCell x = new WideCell();
            x.deleteRow(1 << other, 5, 0);
            Check.answers("other " + other, 1 << 5, x.unlike((other + 1) % 3, other));
            Check.answers("a copy and itself, " + other, 0, x.unlike(other, other));
        }
        for (int other : Refused.beside(0, 2)) {
            Refused.index("other " + other, x -> x.unlike(0, other));
        }
    }

    static void unlikeReturns() {
        Doc.says(UNLIKE, "Returns a set: bit k for the row k.");
        WideCell x = new WideCell();
        int want = 0;
        Check.answers("no row", 0, x.unlike(0, 1));
        for (int row : new int[] {0, 15, 1, 14, 7, 8}) {
            x.deleteRow(1, row, row);
            want |= 1 << row;
            Check.answers("with row " + row, want, x.unlike(0, 1));
        }
        x.deleteColumn(1, 0, 999);
        Check.answers("all rows", 65535, x.unlike(0, 1));
    }

    static void unlikeThrows() {
        Doc.says(UNLIKE, "Throws `IndexOutOfBoundsException` if there is no such copy");
        for (int copy : Refused.farFrom(0, 2)) {
            Refused.index("copy " + copy, x -> x.unlike(copy, 2));
            Refused.index("other " + copy, x -> x.unlike(2, copy));
            Refused.index("both " + copy, x -> x.unlike(copy, copy));
        }
    }

    // ---- areAlike

    static void areAlikeOneByOne() {
        Doc.says(ARE_ALIKE, "Returns whether two copies have the same entries and tombstones, compared one by one.");
        WideCell x = new WideCell();
        // 31 times 7 is 7 times 31, so that all sums are the same.
        x.write(1, 3, 0, 0, 7, 0);
        x.write(2, 3, 0, 31, 0, 0);
        Check.answers("the sums are the same", 0, x.unlike(0, 1));
        Check.fails("the entries are not", x.areAlike(0, 1));
        x = new WideCell();
        x.deleteRow(1, 3, 5);
        x.deleteRow(2, 3, 0);
        x.pass(13);
        x.deleteRow(2, 3, 0);
        Check.answers("5 times 13 is 13 times 5", 0, x.unlike(0, 1));
        Check.fails("the tombstones are not the same", x.areAlike(0, 1));
        x = new WideCell();
        x.deleteCell(1, 9, 2, 0);
        x.deleteColumn(2, 0, 0);
        Check.answers("3 for a CELL and the column 2 are 5 for the COLUMN 0", x.sumOf(0, 4, 9), x.sumOf(1, 4, 9));
        Check.fails("they are not the same tombstone", x.areAlike(0, 1));
        Check.fails("an empty copy and one that is not", x.areAlike(2, 0));
        Check.holds("two that are full", full().areAlike(0, 1));
    }

    static void areAlikeLooksAtEach() {
        Doc.says(ARE_ALIKE, "the same entries and tombstones, compared one by one.");
        WideCell x = new WideCell();
        for (int cell = 0; cell < 64; cell++) {
            x.write(1, cell / 4, cell % 4, 0, 0, 1);
            Check.fails("entry of cell " + cell, x.areAlike(0, 1));
            x.write(2, cell / 4, cell % 4, 0, 0, 1);
            x.deleteCell(2, cell / 4, cell % 4, 0);
            Check.fails("CELL " + cell, x.areAlike(0, 1));
            x.deleteCell(1, cell / 4, cell % 4, 0);
        }
        for (int row = 0; row < 16; row++) {
            x.deleteRow(1, row, 0);
            Check.fails("ROW " + row, x.areAlike(0, 1));
            x.deleteRow(2, row, 0);
        }
        for (int column = 0; column < 4; column++) {
            x.deleteColumn(1, column, 0);
            Check.fails("COLUMN " + column, x.areAlike(0, 1));
            x.deleteColumn(2, column, 0);
        }
        Check.holds("all of these at both", x.areAlike(0, 1));
        WideCell y = new WideCell();
        for (int from = 0; from < 8; from++) {
            y.deleteRange(1, from, 15, 0);
            Check.fails("RANGE from " + from, y.areAlike(0, 1));
            y.deleteRange(2, from, 15, 0);
        }
        Check.holds("eight ranges at both", y.areAlike(0, 1));
    }

    static void areAlikeCopy() {
        Doc.says(ARE_ALIKE, "`copy`: 0 to 2");
        for (int copy = 0; copy <= 2; copy++) {
            WideCell x = new WideCell();
            x.deleteCell(1 << copy, 15, 3, 0);
            Check.fails("copy " + copy, x.areAlike(copy, (copy + 1) % 3));
            Check.holds("not copy " + copy, x.areAlike((copy + 1) % 3, (copy + 2) % 3));
        }
        for (int copy : Refused.beside(0, 2)) {
            Refused.index("copy " + copy, x -> x.areAlike(copy, 0));
        }
    }

    static void areAlikeOther() {
        Doc.says(ARE_ALIKE, "`other`: 0 to 2");
        for (int other = 0; other <= 2; other++) {
            WideCell x = new WideCell();
            x.write(1 << other, 15, 3, 0, 0, 1);
            Check.fails("other " + other, x.areAlike((other + 1) % 3, other));
            Check.holds("a copy and itself, " + other, x.areAlike(other, other));
        }
        for (int other : Refused.beside(0, 2)) {
            Refused.index("other " + other, x -> x.areAlike(0, other));
        }
    }

    static void areAlikeReturns() {
        Doc.says(ARE_ALIKE, "Returns true if so.");
        WideCell x = new WideCell();
        Check.holds("empty", x.areAlike(0, 1));
        x.write(3, 0, 0, 5, 5, 5);
        x.deleteRow(3, 0, 4);
        Check.holds("the same", x.areAlike(0, 1));
        x.write(1, 0, 0, 5, 5, 6);
        Check.fails("another end", x.areAlike(0, 1));
        x.write(2, 0, 0, 5, 5, 6);
        Check.holds("the same end", x.areAlike(0, 1));
        x.setUp(0, false);
        x.write(3, 0, 0, 5, 6, 6);
        Check.fails("a hint does not count", x.areAlike(0, 1));
        x.setUp(0, true);
        Check.holds("a hint that is taken does", x.areAlike(1, 0));
        x.pass(100);
        Check.holds("expired alike", x.areAlike(0, 1));
        x.clean(0);
        Check.fails("cleaned and not", x.areAlike(0, 1));
        x.clean(1);
        Check.holds("both cleaned", x.areAlike(0, 1));
        Check.holds("as never used", x.areAlike(0, 2));
    }

    static void areAlikeThrows() {
        Doc.says(ARE_ALIKE, "Throws `IndexOutOfBoundsException` if there is no such copy");
        for (int copy : Refused.farFrom(0, 2)) {
            Refused.index("copy " + copy, x -> x.areAlike(copy, 2));
            Refused.index("other " + copy, x -> x.areAlike(2, copy));
            Refused.index("both " + copy, x -> x.areAlike(copy, copy));
        }
    }
}
