import java.util.Arrays;
import java.util.List;

/** The sentences under What it is, Table and copies, Entries, Tombstones and Exceptions. */
final class TermsEdges {
    private static final String TABLE = "Table and copies";

    private TermsEdges() {
    }

    // ---- what it is, and what the terms begin with

    static void theLastOf512Calls() {
        Doc.says("What it is", "An object is used for at most 512 calls after it has been made");
        WideCell x = new WideCell();
        for (int i = 0; i < 511; i++) {
            x.write(7, i % 16, i / 16 % 4, i, i, 0);
        }
        Check.answers("the 512th call tells what the 511th wrote", 510, x.valueAt(2, 14, 3));
        WideCell refusing = new WideCell();
        for (int i = 0; i < 511; i++) {
            Check.noIndex("call " + i, () -> refusing.write(7, 16, 0, 0, 0, 0));
        }
        Check.answers("the 512th call after 511 that were refused", 3, refusing.write(7, 15, 0, 0, 0, 0));
        WideCell down = new WideCell();
        for (int stamp = 0; stamp < 255; stamp++) {
            down.setUp(2, false);
            down.deleteRow(4, 0, stamp);
        }
        Check.answers("the 511th call", 10, down.setUp(2, true));
        Check.answers("the 512th call", 9, down.buriedBy(2, 0, 0));
    }

    static void theIdealCopyGetsEverythingAtOnce() {
        Doc.says("Terms", "An ideal copy that gets everything at once tells what ought to be read.");
        WideCell x = new WideCell();
        for (int copy = 0; copy < 3; copy++) {
            x.setUp(copy, false);
        }
        for (int i = 0; i <= 11; i++) {
            x.write(7, 15, 3, i, i, 0);
            Check.answers("write " + i + " with all copies down", i, x.ideal(15, 3));
        }
        x.deleteCell(0, 15, 3, 11);
        Check.answers("deleted at no copy", WideCell.NONE, x.ideal(15, 3));
    }

    // ---- table and copies

    static void rowsAndColumns() {
        Doc.says(TABLE, "There are 16 rows, 0 to 15, and 4 columns, 0 to 3; a cell is a row and a column.");
        WideCell x = new WideCell();
        for (int cell = 0; cell < 64; cell++) {
            x.write(7, cell / 4, cell % 4, cell, 1, 0);
        }
        for (int cell = 0; cell < 64; cell++) {
            for (int copy = 0; copy < 3; copy++) {
                Check.answers("cell " + cell + " of copy " + copy, cell, x.valueAt(copy, cell / 4, cell % 4));
            }
            Check.answers("cell " + cell + " of the ideal copy", cell, x.ideal(cell / 4, cell % 4));
        }
        for (int row : Refused.beside(0, 15)) {
            Refused.index("row " + row, y -> y.write(7, row, 0, 1, 600, 0));
        }
        for (int column : Refused.beside(0, 3)) {
            Refused.index("column " + column, y -> y.write(7, 7, column, 1, 600, 0));
        }
    }

    static void copies() {
        Doc.says(TABLE, "There are the copies 0 to 2, and the ideal copy, which cannot be asked for by a number.");
        for (int copy = 0; copy < 3; copy++) {
            WideCell x = new WideCell();
            x.write(1 << copy, 3, 3, 9, 9, 0);
            for (int asked = 0; asked < 3; asked++) {
                int want = asked == copy ? 9 : WideCell.NONE;
                Check.answers("written to " + copy + ", asked is " + asked, want, x.valueAt(asked, 3, 3));
            }
            Check.answers("written to " + copy + ", the ideal copy", 9, x.ideal(3, 3));
        }
        for (Calls call : Calls.values()) {
            for (int i = 0; i < call.kinds.length(); i++) {
                if (call.kinds.charAt(i) == 'k') {
                    refuseBeside(call, i, 0, 2);
                }
            }
        }
    }

    private static void refuseBeside(Calls call, int place, int least, int most) {
        for (int number : Refused.beside(least, most)) {
            int[] arguments = call.usual();
            arguments[place] = number;
            Refused.index(call + ", argument " + place + " is " + number, x -> call.answer(x, arguments));
        }
    }

    static void eachIsEmptyAtFirst() {
        Doc.says(TABLE, "Each is empty at first.");
        WideCell x = new WideCell();
        for (int copy = 0; copy < 3; copy++) {
            Check.answers("entries of " + copy, 0, x.entries(copy));
            Check.answers("hints for " + copy, 0, x.hints(copy));
            for (int reach = WideCell.CELL; reach <= WideCell.RANGE; reach++) {
                Check.answers("tombstones of " + copy + " with reach " + reach, 0, x.tombstones(copy, reach));
            }
            for (int row = 0; row < 16; row++) {
                Check.answers("sum of row " + row + " at " + copy, 0, x.sumOf(copy, 4, row));
            }
        }
        for (int cell = 0; cell < 64; cell++) {
            Check.answers("ideal cell " + cell, WideCell.NONE, x.ideal(cell / 4, cell % 4));
            Check.answers("stamp of cell " + cell, WideCell.NONE, x.stampAt(cell % 3, cell / 4, cell % 4));
            Check.answers("burial of cell " + cell, WideCell.NONE, x.buriedBy(cell % 3, cell / 4, cell % 4));
        }
    }

    static void copiesAreUpAtFirst() {
        Doc.says(TABLE, "The copies 0 to 2 are up at first.");
        WideCell x = new WideCell();
        for (int copy = 0; copy < 3; copy++) {
            Check.holds("copy " + copy, x.isUp(copy));
            Check.answers("a write goes to copy " + copy, 1, x.write(1 << copy, 0, 0, 1, 1, 0));
            Check.answers("cleaning of copy " + copy, 0, x.clean(copy));
            Check.answers("reading of copy " + copy, 1, x.read(copy, (copy + 1) % 3, 0, 0));
        }
    }

    static void setsAreBits() {
        Doc.says(TABLE, "Sets of copies are told as bits, bit k for the copy k.");
        for (int set = 0; set <= 7; set++) {
            WideCell x = new WideCell();
            x.write(set, 0, 0, 1, 1, 0);
            x.deleteCell(set, 1, 0, 1);
            x.deleteColumn(set, 1, 1);
            x.deleteRow(set, 2, 1);
            x.deleteRange(set, 3, 4, 1);
            for (int copy = 0; copy < 3; copy++) {
                int bit = set >> copy & 1;
                Check.answers("entries of " + copy + " in set " + set, bit, x.entries(copy));
                for (int reach = WideCell.CELL; reach <= WideCell.RANGE; reach++) {
                    String what = "reach " + reach + " at " + copy + " in set " + set;
                    Check.answers(what, bit, x.tombstones(copy, reach));
                }
            }
        }
    }

    static void timeIsZeroAtFirst() {
        Doc.says(TABLE, "The time is 0 at first.");
        WideCell x = new WideCell();
        Check.answers("time", 0, x.time());
        x.deleteRow(1, 0, 0);
        Check.answers("a tombstone made at first", 7, x.sumOf(0, 4, 0));
        x.write(1, 1, 0, 0, 0, 1);
        Check.answers("an end 1 after it", 1 + 1, x.sumOf(0, 4, 1));
        Check.answers("one tick later", 1, x.pass(1));
        Check.answers("and that is the end", WideCell.NONE, x.valueAt(0, 1, 0));
    }

    // ---- entries

    static void oneEntryForEachCell() {
        Doc.says("Entries", "A copy has for each cell at most one entry, with a value, a stamp and an end.");
        WideCell x = new WideCell();
        for (int cell = 0; cell < 64; cell++) {
            Check.answers("entries before cell " + cell, cell, x.entries(1));
            x.write(7, cell / 4, cell % 4, 999, 0, 0);
        }
        for (int cell = 0; cell < 64; cell++) {
            x.write(7, cell / 4, cell % 4, 0, 999, 1);
        }
        Check.answers("written twice", 64, x.entries(1));
        Check.answers("the stamp of the better one", 999, x.stampAt(1, 15, 3));
        Check.answers("its value", 0, x.valueAt(1, 15, 3));
        x.deleteColumn(7, 0, 999);
        Check.answers("covered ones are entries", 64, x.entries(1));
        x.pass(1);
        Check.answers("its end", WideCell.NONE, x.valueAt(1, 15, 3));
        Check.answers("expired ones are entries", 64, x.entries(1));
    }

    static void expiredFromTheEndOn() {
        Doc.says("Entries", "The end is NEVER, or a time; the entry has expired from that time on.");
        WideCell x = new WideCell();
        x.pass(3);
        x.write(7, 0, 0, 1, 1, 1);
        x.write(7, 0, 1, 2, 1, 100);
        x.write(7, 0, 2, 3, 1, 1000);
        x.write(7, 0, 3, 4, 1, 0);
        int[] ends = {4, 103, 1003, Integer.MAX_VALUE};
        for (int time : new int[] {3, 4, 5, 102, 103, 104, 1002, 1003, 1004, 9999, 10000}) {
            Start.passTo(x, time);
            for (int column = 0; column < 4; column++) {
                int want = time < ends[column] ? column + 1 : WideCell.NONE;
                Check.answers("end " + ends[column] + " at time " + time, want, x.valueAt(2, 0, column));
                Check.answers("end " + ends[column] + " at time " + time + ", ideal", want, x.ideal(0, column));
            }
        }
        x.write(7, 15, 0, 5, 1, 1);
        x.write(7, 15, 1, 6, 1, 1000);
        Check.answers("an end at 10001 does not come", 5, x.valueAt(0, 15, 0));
        Check.answers("an end at 11000 does not come", 6, x.valueAt(0, 15, 1));
    }

    static void theGreaterStampIsBetter() {
        Doc.says("Entries", "Of two entries of a cell the one with the greater stamp is better");
        for (int less : new int[] {0, 1, 499, 998}) {
            compareEntries(new int[] {999, less, 0}, new int[] {0, less + 1, 1});
        }
        compareEntries(new int[] {999, 0, 0}, new int[] {0, 999, 1});
    }

    static void thenTheGreaterValueIsBetter() {
        Doc.says("Entries", "with the same stamp the one with the greater value");
        for (int less : new int[] {0, 1, 499, 998}) {
            compareEntries(new int[] {less, 0, 0}, new int[] {less + 1, 0, 1});
            compareEntries(new int[] {less, 999, 0}, new int[] {less + 1, 999, 1});
        }
    }

    static void thenTheGreaterEndIsBetter() {
        Doc.says("Entries", "with the same value the one with the greater end, NEVER being greater than all times.");
        for (int less : new int[] {1, 2, 499, 999}) {
            compareEntries(new int[] {7, 7, less}, new int[] {7, 7, less + 1});
            compareEntries(new int[] {0, 0, less}, new int[] {0, 0, 0});
        }
        compareEntries(new int[] {999, 999, 1000}, new int[] {999, 999, 0});
    }

    /** Both are a value, a stamp and a life; they are written in both orders, at the first and the last time. */
    private static void compareEntries(int[] worse, int[] better) {
        for (int time = 0; time <= 10000; time += 10000) {
            WideCell x = new WideCell();
            Start.passTo(x, time);
            for (int[] entry : new int[][] {worse, better}) {
                x.write(1, 5, 2, entry[0], entry[1], entry[2]);
            }
            for (int[] entry : new int[][] {better, worse}) {
                x.write(2, 5, 2, entry[0], entry[1], entry[2]);
            }
            int end = better[2] == 0 ? 20000 : time + better[2];
            int want = (31 * better[1] + 7 * better[0] + end + 2 + 1) % 65521;
            String what = Arrays.toString(better) + " and " + Arrays.toString(worse) + " at " + time;
            Check.answers("the better later, " + what, want, x.sumOf(0, 4, 5));
            Check.answers("the better first, " + what, want, x.sumOf(1, 4, 5));
            Check.answers("its value, " + what, better[0], x.valueAt(1, 5, 2));
            Check.answers("its stamp, " + what, better[1], x.stampAt(1, 5, 2));
        }
    }

    // ---- tombstones

    static void aTombstoneHasReachStampAndTime() {
        Doc.says("Tombstones", "A tombstone has a reach, a stamp, and the time at which it was made.");
        for (int time = 0; time <= 10000; time += 10000) {
            for (int stamp = 0; stamp <= 999; stamp += 999) {
                WideCell x = new WideCell();
                Start.passTo(x, time);
                int common = 13 * stamp + 5 * time;
                x.deleteCell(1, 15, 3, stamp);
                Check.answers("CELL", common + 3 + 3, x.sumOf(0, 4, 15));
                x.deleteColumn(2, 3, stamp);
                Check.answers("COLUMN", common + 5 + 3, x.sumOf(1, 4, 15));
                x.deleteRow(4, 15, stamp);
                Check.answers("ROW", common + 7, x.sumOf(2, 4, 15));
                x.deleteRange(4, 14, 14, stamp);
                Check.answers("RANGE", (common + 11 + 17 * 14 + 19 * 14) % 65521, x.sumOf(2, 4, 14));
                for (int copy = 0; copy < 3; copy++) {
                    Check.answers("stamp at " + copy, stamp, x.buriedBy(copy, 15, 3));
                }
            }
        }
    }

    static void aReachCoversItsCells() {
        Doc.says("Tombstones", "or a RANGE of rows, from one to another, both included; it covers these cells.");
        for (int cell : new int[] {0, 3, 4, 29, 60, 63}) {
            WideCell x = new WideCell();
            x.deleteCell(1, cell / 4, cell % 4, 0);
            checkCover(x, "cell " + cell, cell / 4, cell / 4, cell % 4, cell % 4);
        }
        for (int column = 0; column < 4; column++) {
            WideCell x = new WideCell();
            x.deleteColumn(1, column, 0);
            checkCover(x, "column " + column, 0, 15, column, column);
        }
        for (int row : new int[] {0, 1, 7, 14, 15}) {
            WideCell x = new WideCell();
            x.deleteRow(1, row, 0);
            checkCover(x, "row " + row, row, row, 0, 3);
        }
        int[][] ranges = {{0, 0}, {0, 1}, {7, 7}, {7, 8}, {14, 15}, {15, 15}, {1, 14}, {0, 15}};
        for (int[] range : ranges) {
            WideCell x = new WideCell();
            x.deleteRange(1, range[0], range[1], 0);
            checkCover(x, "range " + range[0] + " to " + range[1], range[0], range[1], 0, 3);
        }
    }

    private static void checkCover(WideCell x, String what, int top, int bottom, int left, int right) {
        for (int cell = 0; cell < 64; cell++) {
            int row = cell / 4;
            int column = cell % 4;
            boolean isIn = row >= top && row <= bottom && column >= left && column <= right;
            Check.answers(what + " and cell " + cell, isIn ? 0 : WideCell.NONE, x.buriedBy(0, row, column));
        }
    }

    static void oneTombstoneForEachReach() {
        Doc.says("Tombstones", "A copy has at most one tombstone for each reach");
        WideCell x = new WideCell();
        for (int stamp = 5; stamp <= 7; stamp++) {
            for (int cell = 0; cell < 64; cell++) {
                x.deleteCell(2, cell / 4, cell % 4, stamp);
            }
            for (int row = 0; row < 16; row++) {
                x.deleteRow(2, row, stamp);
            }
            for (int column = 0; column < 4; column++) {
                x.deleteColumn(2, column, stamp);
            }
            for (int from = 0; from < 8; from++) {
                x.deleteRange(2, from, 15 - from, stamp);
            }
            Check.answers("CELL, stamp " + stamp, 64, x.tombstones(1, WideCell.CELL));
            Check.answers("COLUMN, stamp " + stamp, 4, x.tombstones(1, WideCell.COLUMN));
            Check.answers("ROW, stamp " + stamp, 16, x.tombstones(1, WideCell.ROW));
            Check.answers("RANGE, stamp " + stamp, 8, x.tombstones(1, WideCell.RANGE));
            x.pass(1);
        }
    }

    static void theBetterTombstone() {
        Doc.says("Tombstones", "of two the one with the greater stamp is better, with the same stamp the one that was "
                + "made later.");
        for (int less : new int[] {0, 1, 499, 998}) {
            WideCell x = new WideCell();
            x.pass(2);
            x.deleteRow(1, 6, less + 1);
            x.pass(1);
            x.deleteRow(1, 6, less);
            Check.answers("less, later, " + less, 13 * (less + 1) + 5 * 2 + 7, x.sumOf(0, 4, 6));
            x.deleteRow(1, 6, less + 1);
            Check.answers("the same, later, " + less, 13 * (less + 1) + 5 * 3 + 7, x.sumOf(0, 4, 6));
            x.deleteRow(2, 7, less);
            x.pass(1);
            x.deleteRow(2, 7, less + 1);
            Check.answers("greater, later, " + less, 13 * (less + 1) + 5 * 4 + 7, x.sumOf(1, 4, 7));
        }
        theBetterTombstoneComesFirst();
    }

    /** A copy that has one made later is offered one made earlier, by reading. */
    private static void theBetterTombstoneComesFirst() {
        WideCell x = new WideCell();
        x.deleteRow(1, 6, 9);
        x.deleteRow(1, 7, 8);
        x.pass(1);
        x.deleteRow(2, 6, 9);
        x.deleteRow(2, 7, 7);
        x.read(1, 0, 6, 0);
        x.read(1, 0, 7, 0);
        for (int copy = 0; copy < 2; copy++) {
            Check.answers("made later, at " + copy, 13 * 9 + 5 + 7, x.sumOf(copy, 4, 6));
            Check.answers("made earlier with a greater stamp, at " + copy, 13 * 8 + 7, x.sumOf(copy, 4, 7));
        }
    }

    static void rangesAreAtMostEight() {
        Doc.says("Tombstones", "All ranges that were ever deleted, each counted once, are at most 8.");
        WideCell x = new WideCell();
        x.setGrace(0);
        x.setUp(2, false);
        for (int row = 0; row < 8; row++) {
            Check.answers("a new range, after " + row, 1, x.deleteRange(5, row, 8, row));
            Check.answers("the same again", 0, x.deleteRange(0, row, 8, 999));
        }
        Check.noState("the ninth", () -> x.deleteRange(1, 8, 8, 0));
        Check.answers("the first again", 1, x.deleteRange(1, 0, 8, 1));
        Check.answers("the eighth again", 1, x.deleteRange(1, 7, 8, 9));
        Check.answers("all are dropped", 8, x.clean(0));
        Check.answers("and its hints are lost", 8, x.loseHints(2));
        Check.noState("the ninth, when no copy has one", () -> x.deleteRange(1, 8, 8, 0));
        Check.answers("the first, when no copy has one", 1, x.deleteRange(1, 0, 8, 2));
        eachOfEightRangesIsSeen();
    }

    private static void eachOfEightRangesIsSeen() {
        WideCell x = new WideCell();
        for (int row = 0; row < 8; row++) {
            x.write(1, row, 3, 9, row, 0);
            x.deleteRange(1, row, row, row);
        }
        for (int row = 0; row < 8; row++) {
            Check.answers("it covers, range " + row, WideCell.NONE, x.valueAt(0, row, 3));
            Check.answers("it buries, range " + row, row, x.buriedBy(0, row, 0));
            Check.answers("it is in the sum, range " + row, 13 * row + 11 + 36 * row + 31 * row + 7 * 9 + 20000 + 4,
                    x.sumOf(0, 4, row));
            x.read(0, 1, row, 0);
            Check.answers("it is read, range " + row, row + 1, x.tombstones(1, WideCell.RANGE));
        }
        Check.answers("repairs", 8, x.repairs());
        Check.answers("they cover what is dropped", 8, x.clean(0));
    }

    static void coveredFromTheSameStampOn() {
        Doc.says("Tombstones", "with a stamp that is not less than that of the entry.");
        for (int stamp : new int[] {0, 1, 2, 500, 998, 999}) {
            for (int burial = Math.max(0, stamp - 1); burial <= Math.min(999, stamp + 1); burial++) {
                for (int reach = WideCell.CELL; reach <= WideCell.RANGE; reach++) {
                    WideCell x = new WideCell();
                    x.write(3, 9, 2, 44, stamp, 0);
                    bury(x, reach, burial);
                    String what = "entry " + stamp + ", reach " + reach + " with " + burial;
                    int want = burial < stamp ? 44 : WideCell.NONE;
                    Check.answers(what, want, x.valueAt(0, 9, 2));
                    Check.answers(what + ", ideal", want, x.ideal(9, 2));
                    Check.answers(what + ", at another copy", 44, x.valueAt(1, 9, 2));
                }
            }
        }
    }

    private static void bury(WideCell x, int reach, int stamp) {
        switch (reach) {
            case WideCell.CELL -> x.deleteCell(1, 9, 2, stamp);
            case WideCell.COLUMN -> x.deleteColumn(1, 2, stamp);
            case WideCell.ROW -> x.deleteRow(1, 9, stamp);
            default -> x.deleteRange(1, 9, 9, stamp);
        }
    }

    static void visibleIfNeitherCoveredNorExpired() {
        Doc.says("Tombstones", "It is visible there if it is not covered and has not expired.");
        WideCell x = new WideCell();
        for (int column = 0; column < 4; column++) {
            x.write(1, 0, column, column, 5, column % 2 == 0 ? 0 : 1);
        }
        x.deleteColumn(1, 2, 5);
        x.deleteColumn(1, 3, 5);
        Check.answers("lives, not covered", 0, x.valueAt(0, 0, 0));
        Check.answers("still lives, not covered", 1, x.valueAt(0, 0, 1));
        Check.answers("still lives, covered", WideCell.NONE, x.valueAt(0, 0, 3));
        x.pass(1);
        Check.answers("not expired, not covered", 0, x.valueAt(0, 0, 0));
        Check.answers("expired, not covered", WideCell.NONE, x.valueAt(0, 0, 1));
        Check.answers("not expired, covered", WideCell.NONE, x.valueAt(0, 0, 2));
        Check.answers("expired, covered", WideCell.NONE, x.valueAt(0, 0, 3));
        Check.answers("all are there", 4, x.entries(0));
    }

    // ---- exceptions

    static void noSuchIndex() {
        Doc.says("Exceptions", "IndexOutOfBoundsException: there is no such copy, row, column, level or node.");
        for (Calls call : Calls.values()) {
            for (int i = 0; i < call.kinds.length(); i++) {
                int most = "krxon".indexOf(call.kinds.charAt(i));
                if (most >= 0) {
                    int last = new int[] {2, 15, 3, 4, 15}[most];
                    for (int number : Refused.farFrom(0, last)) {
                        int[] arguments = call.usual();
                        arguments[i] = number;
                        Refused.index(call + ", argument " + i + " is " + number, x -> call.answer(x, arguments));
                    }
                }
            }
        }
    }

    static void anotherArgumentOutOfRange() {
        Doc.says("Exceptions", "IllegalArgumentException: another argument is out of its range.");
        for (Calls call : Calls.values()) {
            for (int i = 0; i < call.kinds.length(); i++) {
                int kind = "cvsltga".indexOf(call.kinds.charAt(i));
                if (kind >= 0) {
                    int least = new int[] {0, 0, 0, 0, 1, 0, 0}[kind];
                    int most = new int[] {7, 999, 999, 1000, 100, 1000, 3}[kind];
                    for (int number : Refused.farFrom(least, most)) {
                        int[] arguments = call.usual();
                        arguments[i] = number;
                        Refused.argument(call + ", argument " + i + " is " + number, x -> call.answer(x, arguments));
                    }
                }
            }
        }
    }

    static void asTheMethodTells() {
        Doc.says("Exceptions", "IllegalStateException: as the method tells.");
        Refused.state(Start.FULL_OF_RANGES, "a ninth range", x -> x.deleteRange(7, 8, 8, 600));
        Refused.state(Start.LATE, "beyond 10000", x -> x.pass(51));
        Refused.state(Start.BUSY, "reading from one that is down", x -> x.read(0, 2, 3, 1));
        Refused.state(Start.BUSY, "making alike one that is down", x -> x.makeAlike(2, 1));
        Refused.state(Start.BUSY, "cleaning one that is down", x -> x.clean(2));
    }

    static void theFirstNamedException() {
        Doc.says("Exceptions", "If several apply, the one that is named first in the throws clause is thrown.");
        Refused.index("write, row and all others", x -> x.write(8, 16, 0, 1000, 1000, 1001));
        Refused.index("write, column and all others", x -> x.write(-1, 0, 4, -1, -1, -1));
        Refused.index("deleteCell, row and others", x -> x.deleteCell(8, -1, 0, 1000));
        Refused.index("deleteCell, column and others", x -> x.deleteCell(-1, 0, 4, -1));
        Refused.index("deleteColumn, column and others", x -> x.deleteColumn(8, 4, 1000));
        Refused.index("deleteRow, row and others", x -> x.deleteRow(-1, 16, -1));
        Refused.index("deleteRange, to and others", x -> x.deleteRange(8, 0, 16, 1000));
        Refused.index("deleteRange, to is no row and less than from", x -> x.deleteRange(7, 5, -1, 600));
        Refused.index("deleteRange, from is no row and beyond to", x -> x.deleteRange(7, 16, 15, 600));
        Refused.index("read, copies that are the same", x -> x.read(3, 3, 0, 0));
        Refused.index("read, row, and the same", x -> x.read(1, 1, 16, 0));
        Refused.index("makeAlike, copies that are the same", x -> x.makeAlike(-1, -1));
        Refused.index("tombstones, copy and reach", x -> x.tombstones(3, 4));
        Start full = Start.FULL_OF_RANGES;
        Refused.index(full, "no room, and no row", x -> x.deleteRange(7, 9, 16, 600));
        Refused.argument(full, "no room, and no set", x -> x.deleteRange(8, 9, 9, 600));
        Refused.argument(full, "no room, and no stamp", x -> x.deleteRange(7, 9, 9, 1000));
        Refused.argument(full, "no room, and to before from", x -> x.deleteRange(7, 9, 8, 600));
        Refused.argument(Start.AT_THE_LAST_TIME, "too late, and no ticks", x -> x.pass(0));
        Refused.argument(Start.AT_THE_LAST_TIME, "too late, and too many", x -> x.pass(101));
        Refused.index(Start.ALL_DOWN, "down, and no column", x -> x.read(0, 1, 0, 4));
        Refused.index(Start.ALL_DOWN, "down, and no copy to read", x -> x.read(0, 3, 0, 0));
        Refused.index(Start.ALL_DOWN, "down, and no copy to make alike", x -> x.makeAlike(0, 3));
        Refused.argument(Start.ALL_DOWN, "down, and the same to read", x -> x.read(1, 1, 0, 0));
        Refused.argument(Start.ALL_DOWN, "down, and the same to make alike", x -> x.makeAlike(2, 2));
    }

    static void refusedCallsChangeNothing() {
        Doc.says("Exceptions", "A call that throws an exception changes nothing.");
        List<Refused.Call> calls = List.of(
                x -> x.write(7, 14, 0, 999, 999, 1001), x -> x.deleteCell(7, 14, 0, 1000),
                x -> x.deleteColumn(8, 0, 999), x -> x.deleteRow(7, 16, 999), x -> x.deleteRange(7, 15, 14, 999),
                x -> x.setUp(3, true), x -> x.loseHints(3), x -> x.pass(101), x -> x.setGrace(1001),
                x -> x.read(2, 0, 1, 1), x -> x.read(1, 1, 1, 1), x -> x.makeAlike(0, 2), x -> x.makeAlike(0, 0),
                x -> x.clean(2), x -> x.tombstones(0, 4), x -> x.sumOf(0, 5, 0));
        for (int i = 0; i < Snapshot.ALL.size(); i++) {
            WideCell x = Start.BUSY.make();
            for (int call = 0; call < calls.size(); call++) {
                Refused.Call refused = calls.get(call);
                Check.fails("call " + call + " is refused",
                        Check.outcomeOf(() -> refused.on(x)).equals("nothing thrown"));
            }
            Check.same("all calls together", Start.BUSY.seen().get(i), Snapshot.ALL.get(i).ask(x));
        }
    }

    static void noneAndNever() {
        Doc.says("Exceptions", "`NONE = -1, NEVER = -1`: There is none; no end.");
        Check.answers("NONE", -1, WideCell.NONE);
        Check.answers("NEVER", -1, WideCell.NEVER);
        Check.answers("there is no value", -1, new WideCell().valueAt(0, 0, 0));
        Check.answers("there is no stamp", -1, new WideCell().stampAt(0, 0, 0));
    }

    static void reaches() {
        Doc.says("Exceptions", "`CELL = 0, COLUMN = 1, ROW = 2, RANGE = 3`: Reaches of tombstones.");
        int[] reaches = {WideCell.CELL, WideCell.COLUMN, WideCell.ROW, WideCell.RANGE};
        for (int i = 0; i < 4; i++) {
            Check.answers("reach " + i, i, reaches[i]);
            WideCell x = new WideCell();
            x.deleteCell(7, 9, 2, 1);
            bury(x, i, 1);
            int want = i == 0 ? 1 : 2;
            int found = 0;
            for (int reach = 0; reach < 4; reach++) {
                found += x.tombstones(0, reach);
            }
            Check.answers("tombstones with one of reach " + i, want, found);
            Check.answers("those of reach " + i, 1, x.tombstones(0, i));
        }
    }
}
