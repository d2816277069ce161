/** Promises 24 to 27: sums, and copies compared by them. */
public final class SumsTest {
    private SumsTest() {
    }

    public static void main(String[] args) {
        sumOfEntries();
        sumOfTombstones();
        sumOfColumnAndRangeInEveryRow();
        sumsOfLevels();
        sumsAreModulo65521();
        sumOfTheModulusItself();
        sumOfWrongly();
        compared();
        comparedByPlace();
        comparedStopsWhereSumsAreTheSame();
        unlike();
        comparedWrongly();
        areAlike();
        areAlikeLooksAtEverything();
        Check.end("SumsTest");
    }

    private static void sumOfEntries() {
        WideCell x = new WideCell();
        x.write(1, 5, 0, 0, 0, 0);
        Check.answers("24: value 0, stamp 0, no end", 20001, x.sumOf(0, 4, 5));
        x.write(1, 5, 3, 2, 3, 4);
        Check.answers("24: and one with an end", 20001 + 93 + 14 + 4 + 3 + 1, x.sumOf(0, 4, 5));
        Check.answers("24: another row", 0, x.sumOf(0, 4, 6));
        Check.answers("24: another copy", 0, x.sumOf(1, 4, 5));
        x.pass(4);
        Check.answers("24: expired counts too", 20001 + 93 + 14 + 4 + 3 + 1, x.sumOf(0, 4, 5));
    }

    private static void sumOfTombstones() {
        WideCell x = new WideCell();
        x.pass(2);
        x.deleteCell(1, 1, 2, 7);
        Check.answers("24: CELL", 13 * 7 + 5 * 2 + 3 + 2, x.sumOf(0, 0, 0));
        x = new WideCell();
        x.pass(2);
        x.deleteRow(1, 1, 7);
        Check.answers("24: ROW", 13 * 7 + 5 * 2 + 7, x.sumOf(0, 0, 0));
        x = new WideCell();
        x.pass(2);
        x.deleteRange(1, 4, 4, 7);
        Check.answers("24: RANGE", 13 * 7 + 5 * 2 + 11 + 17 * 4 + 19 * 4, x.sumOf(0, 0, 0));
        x.write(1, 4, 1, 1, 1, 0);
        Check.answers("24: and a covered entry", 13 * 7 + 5 * 2 + 11 + 17 * 4 + 19 * 4 + 31 + 7 + 20000 + 2,
                x.sumOf(0, 0, 0));
    }

    private static void sumOfColumnAndRangeInEveryRow() {
        WideCell x = new WideCell();
        x.deleteColumn(1, 3, 7);
        x.pass(1);
        x.deleteRange(1, 3, 12, 2);
        int column = 13 * 7 + 5 + 3;
        int range = 13 * 2 + 5 + 11 + 17 * 3 + 19 * 12;
        for (int row = 0; row < 16; row++) {
            int want = column + (row >= 3 && row <= 12 ? range : 0);
            Check.answers("24: row " + row, want, x.sumOf(0, 4, row));
        }
        Check.answers("24: all rows", 16 * column + 10 * range, x.sumOf(0, 0, 0));
    }

    private static void sumsOfLevels() {
        WideCell x = new WideCell();
        int[] rows = new int[16];
        for (int row = 0; row < 16; row++) {
            x.write(1, row, row % 4, row, row * 40, 0);
            rows[row] = (31 * row * 40 + 7 * row + 20000 + row % 4 + 1) % 65521;
        }
        for (int level = 0; level <= 4; level++) {
            int size = 16 >> level;
            for (int node = 0; node < 1 << level; node++) {
                int want = 0;
                for (int row = node * size; row < node * size + size; row++) {
                    want = (want + rows[row]) % 65521;
                }
                Check.answers("24: level " + level + ", node " + node, want, x.sumOf(0, level, node));
            }
        }
    }

    private static void sumsAreModulo65521() {
        WideCell x = new WideCell();
        for (int column = 0; column < 4; column++) {
            x.write(1, 0, column, 999, 999, 0);
        }
        int row = 4 * (38 * 999 + 20001) + 6;
        Check.answers("24: more than 65521 in a row", row % 65521, x.sumOf(0, 4, 0));
        x.write(1, 1, 0, 999, 999, 0);
        Check.answers("24: more than 65521 in a node", (row + 38 * 999 + 20001) % 65521, x.sumOf(0, 3, 0));
    }

    private static void sumOfTheModulusItself() {
        WideCell x = new WideCell();
        x.write(1, 9, 0, 0, 0, 0);
        x.write(1, 9, 1, 5, 822, 0);
        Check.answers("24: the greatest sum", 65520, x.sumOf(0, 4, 9));
        x = new WideCell();
        x.write(1, 9, 0, 0, 0, 0);
        x.write(1, 9, 1, 14, 820, 0);
        Check.answers("24: one more", 0, x.sumOf(0, 4, 9));
        Check.answers("25: as an empty row", 1, x.compared(0, 1));
        Check.answers("26: as an empty row", 0, x.unlike(0, 1));
        Check.fails("27: but not alike", x.areAlike(0, 1));
    }

    private static void sumOfWrongly() {
        WideCell x = new WideCell();
        Check.noIndex("24: copy -1", () -> x.sumOf(-1, 0, 0));
        Check.noIndex("24: copy 3", () -> x.sumOf(3, 0, 0));
        Check.noIndex("24: level -1", () -> x.sumOf(0, -1, 0));
        Check.noIndex("24: level 5", () -> x.sumOf(0, 5, 0));
        Check.noIndex("24: level 32", () -> x.sumOf(0, 32, 0));
        for (int level = 0; level <= 4; level++) {
            int most = level;
            Check.noIndex("24: node -1 of " + level, () -> x.sumOf(0, most, -1));
            Check.noIndex("24: node beyond " + level, () -> x.sumOf(0, most, 1 << most));
            Check.answers("24: last node of " + level, 0, x.sumOf(0, level, (1 << level) - 1));
        }
    }

    private static void compared() {
        WideCell x = new WideCell();
        Check.answers("25: the same", 1, x.compared(0, 1));
        Check.answers("25: a copy and itself", 1, x.compared(2, 2));
        x.write(1, 0, 0, 1, 1, 0);
        Check.answers("25: one row", 9, x.compared(0, 1));
        Check.answers("25: the other way", 9, x.compared(1, 0));
        x.write(1, 1, 0, 2, 1, 0);
        Check.answers("25: two rows of a node", 9, x.compared(0, 1));
        x.write(1, 2, 0, 3, 1, 0);
        Check.answers("25: a third one", 11, x.compared(0, 1));
        x.write(1, 15, 0, 4, 1, 0);
        Check.answers("25: the last row too", 17, x.compared(0, 1));
        x.deleteColumn(2, 0, 500);
        Check.answers("25: all rows", 31, x.compared(0, 1));
        Check.answers("25: itself with something in it", 1, x.compared(0, 0));
    }

    private static void comparedByPlace() {
        for (int row = 0; row < 16; row++) {
            WideCell x = new WideCell();
            x.deleteRow(4, row, row);
            Check.answers("25: row " + row, 9, x.compared(2, 0));
            Check.answers("26: row " + row, 1 << row, x.unlike(2, 0));
            Check.answers("26: copies without it, row " + row, 0, x.unlike(0, 1));
        }
    }

    private static void comparedStopsWhereSumsAreTheSame() {
        WideCell x = new WideCell();
        // Rows 0 and 1 differ, but not their node of level 3; rows 8 and 9 differ, and their nodes too.
        x.write(1, 0, 0, 5, 5, 0);
        x.write(2, 1, 0, 5, 5, 0);
        Check.answers("25: the root is the same", 1, x.compared(0, 1));
        x.write(1, 8, 0, 5, 5, 0);
        Check.answers("25: the second half only", 9, x.compared(0, 1));
        Check.answers("26: the second half only", 1 << 8, x.unlike(0, 1));
        x.write(1, 2, 0, 9, 9, 0);
        Check.answers("25: both halves", 15, x.compared(0, 1));
        Check.answers("26: rows that stay hidden", 1 << 8 | 1 << 2, x.unlike(0, 1));
    }

    private static void unlike() {
        WideCell x = new WideCell();
        Check.answers("26: the same", 0, x.unlike(0, 1));
        x.write(2, 0, 0, 1, 1, 0);
        x.write(4, 15, 3, 2, 2, 0);
        x.deleteRange(1, 6, 7, 3);
        Check.answers("26: 0 and 1", 1 | 1 << 6 | 1 << 7, x.unlike(0, 1));
        Check.answers("26: 1 and 0", 1 | 1 << 6 | 1 << 7, x.unlike(1, 0));
        Check.answers("26: 1 and 2", 1 | 1 << 15, x.unlike(1, 2));
        Check.answers("26: itself", 0, x.unlike(2, 2));
        x.deleteColumn(4, 1, 3);
        Check.answers("26: all rows", 65535, x.unlike(1, 2));
    }

    private static void comparedWrongly() {
        WideCell x = new WideCell();
        for (int copy : new int[] {Integer.MIN_VALUE, -1, 3, Integer.MAX_VALUE}) {
            Check.noIndex("25: copy " + copy, () -> x.compared(copy, 0));
            Check.noIndex("25: other " + copy, () -> x.compared(0, copy));
            Check.noIndex("26: copy " + copy, () -> x.unlike(copy, 0));
            Check.noIndex("26: other " + copy, () -> x.unlike(0, copy));
            Check.noIndex("27: copy " + copy, () -> x.areAlike(copy, 0));
            Check.noIndex("27: other " + copy, () -> x.areAlike(0, copy));
            Check.noIndex("27: both " + copy, () -> x.areAlike(copy, copy));
        }
    }

    private static void areAlike() {
        WideCell x = new WideCell();
        Check.holds("27: empty", x.areAlike(0, 1));
        x.write(7, 0, 0, 1, 1, 0);
        x.deleteRow(7, 1, 1);
        Check.holds("27: the same", x.areAlike(1, 2));
        x.write(1, 0, 0, 1, 2, 0);
        Check.fails("27: other entries", x.areAlike(0, 1));
        Check.fails("27: the other way", x.areAlike(1, 0));
        Check.holds("27: the others still are", x.areAlike(1, 2));
        Check.holds("27: itself", x.areAlike(0, 0));
        x.write(6, 0, 0, 1, 2, 0);
        Check.holds("27: again", x.areAlike(0, 1));
    }

    private static void areAlikeLooksAtEverything() {
        WideCell x = new WideCell();
        x.write(3, 15, 3, 1, 1, 5);
        x.write(1, 15, 3, 1, 1, 6);
        Check.fails("27: other ends", x.areAlike(0, 1));
        x.write(2, 15, 3, 1, 1, 6);
        x.write(1, 15, 3, 2, 1, 6);
        Check.fails("27: other values", x.areAlike(0, 1));
        x.write(2, 15, 3, 2, 1, 6);
        Check.holds("27: the same", x.areAlike(0, 1));
        x.deleteCell(1, 0, 0, 0);
        Check.fails("27: CELL", x.areAlike(0, 1));
        x.deleteCell(2, 0, 0, 0);
        x.deleteColumn(2, 3, 0);
        Check.fails("27: COLUMN", x.areAlike(0, 1));
        x.deleteColumn(1, 3, 0);
        x.deleteRow(1, 15, 0);
        Check.fails("27: ROW", x.areAlike(0, 1));
        x.deleteRow(2, 15, 0);
        x.deleteRange(1, 15, 15, 0);
        Check.fails("27: RANGE", x.areAlike(0, 1));
        x.deleteRange(2, 15, 15, 0);
        Check.holds("27: all the same", x.areAlike(0, 1));
        x.pass(1);
        x.deleteRange(2, 15, 15, 0);
        Check.fails("27: made at another time", x.areAlike(0, 1));
        x.deleteRange(1, 15, 15, 0);
        Check.holds("27: made at the same time", x.areAlike(0, 1));
        x.setGrace(0);
        x.clean(0);
        x.clean(1);
        Check.holds("27: cleaned alike", x.areAlike(0, 1));
        x.clean(2);
        Check.fails("27: an empty one and one with an entry", x.areAlike(0, 2));
        x.pass(100);
        x.clean(0);
        Check.holds("27: dropped is as never taken", x.areAlike(0, 2));
    }
}
