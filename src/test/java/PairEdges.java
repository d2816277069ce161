/** The promises 11 and 12: two copies that are read, or made alike. */
final class PairEdges {
    private static final String READ = "Promise 11";
    private static final String MAKE_ALIKE = "Promise 12";

    private PairEdges() {
    }

    // ---- read

    static void readRepairsIfNeeded() {
        Doc.says(READ, "Reads a cell from two copies, with a repair if it is needed.");
        WideCell x = new WideCell();
        x.read(0, 1, 0, 0);
        Check.answers("nothing at both", 0, x.repairs());
        x.write(3, 0, 0, 9, 9, 0);
        x.read(0, 1, 0, 0);
        Check.answers("the same at both", 0, x.repairs());
        x.read(1, 2, 0, 0);
        Check.answers("something at one", 1, x.repairs());
        x.read(1, 2, 0, 0);
        Check.answers("repaired", 1, x.repairs());
    }

    static void readCopy() {
        Doc.says(READ, "`copy`: 0 to 2");
        for (int copy = 0; copy <= 2; copy++) {
            WideCell x = new WideCell();
            x.write(1 << copy, 0, 0, 9, 9, 0);
            int other = (copy + 1) % 3;
            int third = (copy + 2) % 3;
            Check.answers("copy " + copy, 9, x.read(copy, other, 0, 0));
            Check.answers("the other of " + copy, 9, x.valueAt(other, 0, 0));
            Check.answers("the third of " + copy, WideCell.NONE, x.valueAt(third, 0, 0));
        }
        for (int copy : Refused.beside(0, 2)) {
            Refused.index("copy " + copy, x -> x.read(copy, 1, 3, 1));
        }
    }

    static void readOther() {
        Doc.says(READ, "`other`: another copy, 0 to 2");
        for (int other = 0; other <= 2; other++) {
            WideCell x = new WideCell();
            x.write(1 << other, 0, 0, 9, 9, 0);
            int copy = (other + 1) % 3;
            int third = (other + 2) % 3;
            Check.answers("other " + other, 9, x.read(copy, other, 0, 0));
            Check.answers("the first of " + other, 9, x.valueAt(copy, 0, 0));
            Check.answers("the third of " + other, WideCell.NONE, x.valueAt(third, 0, 0));
        }
        for (int other : Refused.beside(0, 2)) {
            Refused.index("other " + other, x -> x.read(1, other, 3, 1));
        }
        Refused.argument("not another", x -> x.read(0, 0, 3, 1));
    }

    static void readRow() {
        Doc.says(READ, "`row`: 0 to 15");
        WideCell x = new WideCell();
        for (int row = 0; row <= 15; row += 15) {
            x.write(1, row, 1, row, 1, 0);
            Check.answers("row " + row, row, x.read(0, 1, row, 1));
            Check.answers("row " + row + " is taken", row, x.valueAt(1, row, 1));
        }
        for (int row : Refused.beside(0, 15)) {
            Refused.index("row " + row, y -> y.read(0, 1, row, 1));
        }
    }

    static void readColumn() {
        Doc.says(READ, "`column`: 0 to 3");
        WideCell x = new WideCell();
        for (int column = 0; column <= 3; column += 3) {
            x.write(1, 5, column, column, 1, 0);
            Check.answers("column " + column, column, x.read(0, 1, 5, column));
            Check.answers("column " + column + " is taken", column, x.valueAt(1, 5, column));
        }
        for (int column : Refused.beside(0, 3)) {
            Refused.index("column " + column, y -> y.read(0, 1, 5, column));
        }
    }

    static void readReturns() {
        Doc.says(READ, "Returns the value; NONE if no entry is visible.");
        WideCell x = new WideCell();
        Check.answers("no entry", WideCell.NONE, x.read(0, 1, 5, 1));
        x.write(1, 5, 1, 0, 0, 2);
        Check.answers("the least value", 0, x.read(0, 1, 5, 1));
        x.write(2, 5, 1, 999, 0, 2);
        Check.answers("the greatest value", 999, x.read(0, 1, 5, 1));
        x.pass(1);
        Check.answers("not expired", 999, x.read(0, 1, 5, 1));
        x.pass(1);
        Check.answers("expired", WideCell.NONE, x.read(0, 1, 5, 1));
        x.write(4, 5, 1, 7, 1, 0);
        Check.answers("a better one at the third copy is not asked for", WideCell.NONE, x.read(0, 1, 5, 1));
        Check.answers("until it is", 7, x.read(0, 2, 5, 1));
        x.deleteRow(2, 5, 1);
        Check.answers("covered by what the other has", WideCell.NONE, x.read(0, 1, 5, 1));
    }

    static void readThrowsForIndex() {
        Doc.says(READ, "Throws `IndexOutOfBoundsException` if there is no such copy, row or column");
        for (int copy : Refused.farFrom(0, 2)) {
            Refused.index("copy " + copy, x -> x.read(copy, 0, 3, 1));
            Refused.index("other " + copy, x -> x.read(0, copy, 3, 1));
            Refused.index("both " + copy, x -> x.read(copy, copy, 3, 1));
        }
        for (int row : Refused.farFrom(0, 15)) {
            Refused.index("row " + row, x -> x.read(0, 1, row, 1));
        }
        for (int column : Refused.farFrom(0, 3)) {
            Refused.index("column " + column, x -> x.read(0, 1, 3, column));
        }
        Refused.index("row -1, column 4", x -> x.read(0, 1, -1, 4));
    }

    static void readThrowsIfBothAreTheSame() {
        Doc.says(READ, "Throws `IllegalArgumentException` if both copies are the same");
        for (int copy = 0; copy <= 2; copy++) {
            int same = copy;
            Refused.argument("copy " + copy, x -> x.read(same, same, 3, 1));
            Refused.argument(Start.ALL_DOWN, "copy " + copy, x -> x.read(same, same, 3, 1));
        }
    }

    static void readThrowsIfOneIsDown() {
        Doc.says(READ, "Throws `IllegalStateException` if one of them is down");
        Refused.state(Start.BUSY, "the other is down", x -> x.read(0, 2, 0, 0));
        Refused.state(Start.BUSY, "the first is down", x -> x.read(2, 0, 0, 0));
        Refused.state(Start.BUSY, "the other is down, 1", x -> x.read(1, 2, 7, 0));
        Refused.state(Start.ALL_DOWN, "both are down", x -> x.read(0, 2, 3, 1));
        WideCell x = Start.BUSY.make();
        x.read(0, 1, 7, 0);
        Check.answers("two that are up, the third is down", 5, x.valueAt(0, 7, 0));
        x.setUp(2, true);
        x.read(0, 2, 0, 0);
        Check.answers("when it is up again", x.buriedBy(2, 0, 0), x.buriedBy(0, 0, 0));
    }

    // ---- makeAlike

    static void makeAlikeMakesAlike() {
        Doc.says(MAKE_ALIKE, "Makes two copies alike.");
        WideCell x = Start.BUSY.make();
        int down = x.sumOf(2, 0, 0);
        Check.fails("before", x.areAlike(0, 1));
        Check.holds("some rows", x.makeAlike(0, 1) > 0);
        Check.holds("after", x.areAlike(0, 1));
        Check.answers("the third is as it was", down, x.sumOf(2, 0, 0));
        Check.answers("nothing to do", 0, x.makeAlike(1, 0));
        Check.answers("it is no repair", Start.BUSY.make().repairs(), x.repairs());
    }

    static void makeAlikeCopy() {
        Doc.says(MAKE_ALIKE, "`copy`: 0 to 2");
        for (int copy = 0; copy <= 2; copy++) {
            checkPair(copy, (copy + 1) % 3);
        }
        for (int copy : Refused.beside(0, 2)) {
            Refused.index("copy " + copy, x -> x.makeAlike(copy, 1));
        }
    }

    static void makeAlikeOther() {
        Doc.says(MAKE_ALIKE, "`other`: another copy, 0 to 2");
        for (int other = 0; other <= 2; other++) {
            checkPair((other + 1) % 3, other);
        }
        for (int other : Refused.beside(0, 2)) {
            Refused.index("other " + other, x -> x.makeAlike(1, other));
        }
        Refused.argument("not another", x -> x.makeAlike(0, 0));
    }

    private static void checkPair(int copy, int other) {
        WideCell x = new WideCell();
        x.write(1 << copy, 0, 0, 8, 8, 0);
        x.write(1 << other, 15, 3, 9, 9, 0);
        String what = copy + " and " + other;
        Check.answers("two rows, " + what, 2, x.makeAlike(copy, other));
        Check.answers("the other takes, " + what, 8, x.valueAt(other, 0, 0));
        Check.answers("the first takes, " + what, 9, x.valueAt(copy, 15, 3));
        Check.answers("the third does not, " + what, 0, x.entries(3 - copy - other));
    }

    static void makeAlikeReturns() {
        Doc.says(MAKE_ALIKE, "Returns how many rows had sums that differed.");
        for (int rows = 0; rows <= 16; rows++) {
            WideCell x = new WideCell();
            for (int row = 0; row < rows; row++) {
                // The greater values at the copy 1 keep the sums of all nodes apart.
                x.write(1 << row % 2, row, 3, row * row, 1, 0);
            }
            Check.answers("rows " + rows, rows, x.makeAlike(0, 1));
            Check.answers("no row then, " + rows, 0, x.makeAlike(0, 1));
            Check.answers("entries, " + rows, rows, x.entries(1));
        }
        WideCell x = new WideCell();
        x.deleteColumn(1, 0, 0);
        Check.answers("one tombstone in all rows", 16, x.makeAlike(0, 1));
        x.deleteRange(2, 3, 9, 0);
        Check.answers("one tombstone in seven rows", 7, x.makeAlike(0, 1));
    }

    static void makeAlikeThrowsForCopy() {
        Doc.says(MAKE_ALIKE, "Throws `IndexOutOfBoundsException` if there is no such copy");
        for (int copy : Refused.farFrom(0, 2)) {
            Refused.index("copy " + copy, x -> x.makeAlike(copy, 0));
            Refused.index("other " + copy, x -> x.makeAlike(0, copy));
            Refused.index("both " + copy, x -> x.makeAlike(copy, copy));
        }
    }

    static void makeAlikeThrowsIfBothAreTheSame() {
        Doc.says(MAKE_ALIKE, "Throws `IllegalArgumentException` if both copies are the same");
        for (int copy = 0; copy <= 2; copy++) {
            int same = copy;
            Refused.argument("copy " + copy, x -> x.makeAlike(same, same));
            Refused.argument(Start.ALL_DOWN, "copy " + copy, x -> x.makeAlike(same, same));
        }
    }

    static void makeAlikeThrowsIfOneIsDown() {
        Doc.says(MAKE_ALIKE, "Throws `IllegalStateException` if one of them is down");
        Refused.state(Start.BUSY, "the other is down", x -> x.makeAlike(0, 2));
        Refused.state(Start.BUSY, "the first is down", x -> x.makeAlike(2, 1));
        Refused.state(Start.ALL_DOWN, "both are down", x -> x.makeAlike(0, 2));
        WideCell x = Start.ALL_DOWN.make();
        x.setUp(0, true);
        Check.noState("one is still down", () -> x.makeAlike(0, 2));
        x.setUp(2, true);
        Check.answers("both are up again", 1, x.makeAlike(0, 2));
    }
}
