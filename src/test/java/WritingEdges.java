/** The promises 1 and 2: a new object, and writing. */
final class WritingEdges {
    private static final String WRITE = "Promise 2";

    private WritingEdges() {
    }

    static void aNewObject() {
        Doc.says("Promise 1", "Makes empty copies, all of them up.");
        for (int copy = 0; copy < 3; copy++) {
            WideCell x = new WideCell();
            Check.holds("up, " + copy, x.isUp(copy));
            Check.answers("entries, " + copy, 0, x.entries(copy));
            for (int cell = 0; cell < 64; cell++) {
                int row = cell / 4;
                int column = cell % 4;
                Check.answers("value, " + copy + ", cell " + cell, WideCell.NONE, x.valueAt(copy, row, column));
                Check.answers("stamp, " + copy + ", cell " + cell, WideCell.NONE, x.stampAt(copy, row, column));
                Check.answers("burial, " + copy + ", cell " + cell, WideCell.NONE, x.buriedBy(copy, row, column));
            }
            Check.answers("nothing to clean, " + copy, 0, x.clean(copy));
            Check.answers("one node compared, " + copy, 1, x.compared(copy, (copy + 1) % 3));
            Check.holds("alike, " + copy, x.areAlike(copy, (copy + 2) % 3));
        }
        WideCell used = Start.BUSY.make();
        Check.holds("another object is in use", used.entries(0) > 0);
        Check.same("it is empty beside one in use", Start.NEW.seen().get(0), Snapshot.of(new WideCell()));
    }

    static void copies() {
        Doc.says(WRITE, "`copies`: a set of copies, 0 to 7");
        for (int set = 0; set <= 7; set++) {
            WideCell x = new WideCell();
            Check.answers("set " + set, Integer.bitCount(set), x.write(set, 5, 2, 9, 9, 0));
            for (int copy = 0; copy < 3; copy++) {
                int want = (set >> copy & 1) == 1 ? 9 : WideCell.NONE;
                Check.answers("copy " + copy + " in set " + set, want, x.valueAt(copy, 5, 2));
            }
        }
        for (int set : Refused.beside(0, 7)) {
            Refused.argument("set " + set, x -> x.write(set, 5, 2, 9, 600, 0));
        }
    }

    static void row() {
        Doc.says(WRITE, "`row`: 0 to 15");
        WideCell x = new WideCell();
        x.write(7, 0, 1, 10, 1, 0);
        x.write(7, 15, 1, 11, 1, 0);
        for (int row = 0; row <= 15; row++) {
            int want = row == 0 ? 10 : row == 15 ? 11 : WideCell.NONE;
            Check.answers("row " + row, want, x.valueAt(1, row, 1));
        }
        for (int row : Refused.beside(0, 15)) {
            Refused.index("row " + row, y -> y.write(7, row, 0, 9, 600, 0));
        }
    }

    static void column() {
        Doc.says(WRITE, "`column`: 0 to 3");
        WideCell x = new WideCell();
        x.write(7, 5, 0, 10, 1, 0);
        x.write(7, 5, 3, 11, 1, 0);
        int[] want = {10, WideCell.NONE, WideCell.NONE, 11};
        for (int column = 0; column <= 3; column++) {
            Check.answers("column " + column, want[column], x.valueAt(1, 5, column));
        }
        Check.answers("nothing in the row before", WideCell.NONE, x.stampAt(1, 4, 3));
        Check.answers("nothing in the row after", WideCell.NONE, x.stampAt(1, 6, 0));
        for (int column : Refused.beside(0, 3)) {
            Refused.index("column " + column, y -> y.write(7, 5, column, 9, 600, 0));
        }
    }

    static void value() {
        Doc.says(WRITE, "`value`: 0 to 999");
        WideCell x = new WideCell();
        for (int value : new int[] {0, 1, 998, 999}) {
            Check.answers("value " + value, 3, x.write(7, 5, 1, value, 1, 0));
            Check.answers("value " + value + ", asked", value, x.valueAt(2, 5, 1));
            Check.answers("value " + value + ", read", value, x.read(0, 1, 5, 1));
            Check.answers("value " + value + ", ideal", value, x.ideal(5, 1));
        }
        for (int value : Refused.beside(0, 999)) {
            Refused.argument("value " + value, y -> y.write(7, 5, 1, value, 600, 0));
        }
    }

    static void stamp() {
        Doc.says(WRITE, "`stamp`: 0 to 999");
        WideCell x = new WideCell();
        for (int stamp : new int[] {0, 1, 998, 999}) {
            Check.answers("stamp " + stamp, 3, x.write(7, 5, 1, 9, stamp, 0));
            Check.answers("stamp " + stamp + ", asked", stamp, x.stampAt(2, 5, 1));
            Check.answers("stamp " + stamp + ", visible", 9, x.valueAt(2, 5, 1));
        }
        for (int stamp : Refused.beside(0, 999)) {
            Refused.argument("stamp " + stamp, y -> y.write(7, 5, 1, 9, stamp, 0));
        }
    }

    static void life() {
        Doc.says(WRITE, "`life`: how long it lives from now on, 1 to 1000; 0 for ever");
        for (int begin : new int[] {0, 100, 9000}) {
            for (int life : new int[] {1, 2, 999, 1000}) {
                WideCell x = new WideCell();
                Start.passTo(x, begin);
                Check.answers("life " + life, 3, x.write(7, 5, 1, 9, 1, life));
                Check.answers("life " + life + ", now", 9, x.valueAt(0, 5, 1));
                Start.passTo(x, begin + life - 1);
                Check.answers("life " + life + ", just before its end", 9, x.valueAt(0, 5, 1));
                x.pass(1);
                Check.answers("life " + life + ", at its end", WideCell.NONE, x.valueAt(0, 5, 1));
            }
        }
        WideCell x = new WideCell();
        x.write(7, 5, 1, 9, 1, 0);
        Start.passTo(x, 10000);
        Check.answers("for ever", 9, x.valueAt(0, 5, 1));
        lifeOfAHint();
        for (int life : Refused.beside(0, 1000)) {
            Refused.argument("life " + life, y -> y.write(7, 5, 1, 9, 600, life));
        }
    }

    /** It lives from the call on, not from when it is taken. */
    private static void lifeOfAHint() {
        WideCell x = new WideCell();
        x.setUp(2, false);
        x.write(7, 5, 1, 9, 1, 5);
        x.write(7, 5, 2, 9, 1, 6);
        x.pass(5);
        x.setUp(2, true);
        Check.answers("a hint that is taken at its end", WideCell.NONE, x.valueAt(2, 5, 1));
        Check.answers("a hint that is taken just before its end", 9, x.valueAt(2, 5, 2));
        Check.holds("as at a copy that took it at once", x.areAlike(1, 2));
    }

    static void returnsHowManyAreUp() {
        Doc.says(WRITE, "Returns how many of the copies are up.");
        for (int up = 0; up <= 7; up++) {
            WideCell x = new WideCell();
            for (int copy = 0; copy < 3; copy++) {
                x.setUp(copy, (up >> copy & 1) == 1);
            }
            for (int set = 0; set <= 7; set++) {
                int want = Integer.bitCount(set & up);
                Check.answers("set " + set + ", up " + up, want, x.write(set, 5, 1, 9, 1, 0));
                Check.answers("the same again, set " + set + ", up " + up, want, x.write(set, 5, 1, 9, 1, 0));
                Check.answers("a worse one, set " + set + ", up " + up, want, x.write(set, 5, 1, 9, 0, 0));
            }
        }
    }

    static void throwsForRowAndColumn() {
        Doc.says(WRITE, "Throws `IndexOutOfBoundsException` if there is no such row or column");
        for (int row : Refused.farFrom(0, 15)) {
            Refused.index("row " + row, x -> x.write(7, row, 1, 9, 600, 0));
            Refused.index("no column beside row " + row, x -> x.write(7, row, -1, 9, 600, 0));
        }
        for (int column : Refused.farFrom(0, 3)) {
            Refused.index("column " + column, x -> x.write(7, 5, column, 9, 600, 0));
        }
        // Each of these would be a cell of the table if it were counted as row * 4 + column.
        Refused.index("row 0, column 5", x -> x.write(7, 0, 5, 9, 600, 0));
        Refused.index("row -1, column 4", x -> x.write(7, -1, 4, 9, 600, 0));
        Refused.index("row 16, column -1", x -> x.write(7, 16, -1, 9, 600, 0));
    }

    static void throwsForOthers() {
        Doc.says(WRITE, "Throws `IllegalArgumentException` if copies, value, stamp or life is out of range");
        for (int set : Refused.farFrom(0, 7)) {
            Refused.argument("copies " + set, x -> x.write(set, 5, 1, 9, 600, 0));
        }
        for (int value : Refused.farFrom(0, 999)) {
            Refused.argument("value " + value, x -> x.write(7, 5, 1, value, 600, 0));
        }
        for (int stamp : Refused.farFrom(0, 999)) {
            Refused.argument("stamp " + stamp, x -> x.write(7, 5, 1, 9, stamp, 0));
        }
        for (int life : Refused.farFrom(0, 1000)) {
            Refused.argument("life " + life, x -> x.write(7, 5, 1, 9, 600, life));
        }
        Refused.argument("all of them", x -> x.write(8, 5, 1, 1000, 1000, 1001));
    }
}
