/** The sentences under Writing, Reading and Cleaning. */
final class UpkeepEdges {
    private UpkeepEdges() {
    }

    // ---- writing

    static void toTheSetAndTheIdealCopy() {
        Doc.says("Writing", "What is written or deleted goes to the copies of a set, and to the ideal copy");
        WideCell x = new WideCell();
        x.write(0, 0, 0, 9, 9, 0);
        Check.answers("the empty set, ideal", 9, x.ideal(0, 0));
        for (int copy = 0; copy < 3; copy++) {
            Check.answers("the empty set, copy " + copy, 0, x.entries(copy));
        }
        x.write(7, 1, 0, 8, 8, 0);
        Check.answers("the full set, ideal", 8, x.ideal(1, 0));
        for (int copy = 0; copy < 3; copy++) {
            Check.answers("the full set, copy " + copy, 8, x.valueAt(copy, 1, 0));
        }
        deletionsOfTheEmptySet();
    }

    private static void deletionsOfTheEmptySet() {
        WideCell x = new WideCell();
        for (int row = 0; row < 4; row++) {
            x.write(7, row, row, row, 5, 0);
        }
        x.deleteCell(0, 0, 0, 5);
        x.deleteColumn(0, 1, 5);
        x.deleteRow(0, 2, 5);
        x.deleteRange(0, 3, 3, 5);
        for (int row = 0; row < 4; row++) {
            Check.answers("the empty set, reach " + row + ", ideal", WideCell.NONE, x.ideal(row, row));
            for (int copy = 0; copy < 3; copy++) {
                Check.answers("the empty set, reach " + row + ", copy " + copy, row, x.valueAt(copy, row, row));
                Check.answers("no tombstone of reach " + row + " at " + copy, 0, x.tombstones(copy, row));
            }
        }
    }

    static void aCopyThatIsUpTakesIt() {
        Doc.says("Writing", "a copy that is up takes it");
        WideCell x = new WideCell();
        x.setUp(0, false);
        x.setUp(0, true);
        x.setUp(1, false);
        x.write(7, 0, 0, 9, 9, 0);
        x.deleteRow(7, 1, 9);
        Check.answers("up again", 9, x.valueAt(0, 0, 0));
        Check.answers("up again, tombstone", 9, x.buriedBy(0, 1, 0));
        Check.answers("never down", 9, x.valueAt(2, 0, 0));
        Check.answers("no hints for one that is up", 0, x.hints(0));
        Check.answers("down", 0, x.entries(1));
        Check.answers("down, tombstone", WideCell.NONE, x.buriedBy(1, 1, 0));
    }

    static void upToTenHints() {
        Doc.says("Writing", "for one that is down it is kept as a hint, behind those it has already, up to 10");
        for (int made = 0; made <= 12; made++) {
            WideCell x = new WideCell();
            x.setUp(1, false);
            for (int row = 0; row < made; row++) {
                x.deleteRow(2, row, row);
            }
            int kept = Math.min(made, 10);
            Check.answers("hints after " + made, kept, x.hints(1));
            Check.answers("nothing is taken yet, after " + made, 0, x.tombstones(1, WideCell.ROW));
            Check.answers("taken after " + made, kept, x.setUp(1, true));
            Check.answers("tombstones after " + made, kept, x.tombstones(1, WideCell.ROW));
            for (int row = 0; row < made; row++) {
                int want = row < 10 ? row : WideCell.NONE;
                Check.answers("row " + row + " of " + made, want, x.buriedBy(1, row, 3));
            }
        }
    }

    static void hintsOfEveryKind() {
        Doc.says("Writing", "it is kept as a hint");
        WideCell x = new WideCell();
        x.setUp(1, false);
        for (int i = 0; i < 2; i++) {
            x.write(7, 0, 0, 1, 1, 0);
            x.deleteCell(7, 0, 1, 1);
            x.deleteColumn(7, 2, 1);
            x.deleteRow(7, 1, 1);
            x.deleteRange(7, 2, 3, 1);
            Check.answers("hints, the same ones too", 5 * i + 5, x.hints(1));
        }
        x.write(5, 0, 0, 1, 1, 0);
        Check.answers("not for a copy out of the set", 10, x.hints(1));
    }

    static void lostBeyondTen() {
        Doc.says("Writing", "and is lost for it beyond that.");
        WideCell x = Start.FULL_OF_HINTS.make();
        x.setUp(0, false);
        Check.answers("the eleventh", 1, x.write(7, 10, 1, 10, 5, 0));
        Check.answers("for it", 10, x.hints(2));
        Check.answers("not for one with room", 1, x.hints(0));
        Check.answers("not for one that is up", 10, x.valueAt(1, 10, 1));
        Check.answers("not for the ideal copy", 10, x.ideal(10, 1));
        Check.answers("ten are taken", 10, x.setUp(2, true));
        Check.answers("the tenth", 9, x.valueAt(2, 9, 1));
        Check.answers("the eleventh is not there", WideCell.NONE, x.stampAt(2, 10, 1));
        x.setUp(2, false);
        Check.answers("it does not come later", 0, x.setUp(2, true));
        Check.answers("nor then", WideCell.NONE, x.stampAt(2, 10, 1));
    }

    static void unlessBetterOrTheSame() {
        Doc.says("Writing", "To take an entry or a tombstone is to have it, unless the copy has a better one, or the "
                + "same, for its cell or reach.");
        WideCell x = new WideCell();
        x.write(7, 0, 0, 5, 5, 0);
        x.deleteRow(7, 1, 5);
        WideCell twin = new WideCell();
        twin.write(7, 0, 0, 5, 5, 0);
        twin.deleteRow(7, 1, 5);
        Check.answers("the same entry is told of as ever", 3, x.write(7, 0, 0, 5, 5, 0));
        Check.answers("the same tombstone", 3, x.deleteRow(7, 1, 5));
        Check.answers("a worse entry", 3, x.write(7, 0, 0, 999, 4, 0));
        Check.answers("a worse tombstone", 3, x.deleteRow(7, 1, 4));
        Check.answers("an entry with less end", 3, x.write(7, 0, 0, 5, 5, 1000));
        Check.same("nothing is changed by these", Snapshot.of(twin), Snapshot.of(x));
        Check.answers("to another cell of the row", 3, x.write(7, 0, 1, 4, 4, 0));
        Check.answers("it is there", 4, x.valueAt(0, 0, 1));
        Check.answers("another reach", 3, x.deleteRange(7, 1, 1, 4));
        Check.answers("it is there too", 1, x.tombstones(0, WideCell.RANGE));
        x.setGrace(0);
        x.clean(0);
        x.deleteRow(1, 1, 0);
        Check.answers("what was dropped is not better any more", 0, x.buriedBy(0, 1, 0));
    }

    static void anEntryUnderATombstoneIsTaken() {
        Doc.says("Writing", "To take an entry or a tombstone is to have it");
        WideCell x = new WideCell();
        x.deleteCell(1, 15, 3, 999);
        x.write(1, 15, 3, 0, 0, 1);
        Check.answers("the entry", 0, x.stampAt(0, 15, 3));
        Check.answers("is covered", WideCell.NONE, x.valueAt(0, 15, 3));
        x.write(1, 0, 0, 0, 999, 0);
        x.deleteCell(1, 0, 0, 0);
        Check.answers("a tombstone that covers nothing", 0, x.buriedBy(0, 0, 0));
        Check.answers("the entry stays", 0, x.valueAt(0, 0, 0));
    }

    static void allHintsWhenItComesUp() {
        Doc.says("Writing", "When a copy comes up it takes all its hints in order, and they are gone.");
        WideCell x = Start.FULL_OF_HINTS.make();
        Check.answers("none is taken before", 0, x.entries(2));
        Check.answers("all", 10, x.setUp(2, true));
        for (int row = 0; row < 10; row++) {
            Check.answers("row " + row, row, x.valueAt(2, row, 1));
        }
        Check.answers("gone", 0, x.hints(2));
        Check.answers("up again", 0, x.setUp(2, true));
        x.deleteColumn(4, 1, 5);
        x.setGrace(0);
        Check.answers("all are cleaned away", 11, x.clean(2));
        x.setUp(2, false);
        Check.answers("down and up again", 0, x.setUp(2, true));
        Check.answers("nothing is taken again", 0, x.entries(2));
        x.setUp(2, false);
        Check.answers("there is room again", 0, x.deleteRow(4, 0, 0));
        Check.answers("for the next ten", 1, x.hints(2));
    }

    static void theTimeOfTheDeletion() {
        Doc.says("Writing", "(A tombstone has the time at which the deletion was called, also if it is taken later.)");
        WideCell x = new WideCell();
        x.setUp(2, false);
        x.deleteCell(7, 0, 0, 1);
        x.pass(1);
        x.deleteColumn(7, 1, 1);
        x.pass(1);
        x.deleteRow(7, 2, 1);
        x.pass(1);
        x.deleteRange(7, 3, 3, 1);
        x.pass(9);
        x.setUp(2, true);
        int column = 13 + 5 + 5 + 1;
        Check.answers("at time 0", 13 + 3 + column, x.sumOf(2, 4, 0));
        Check.answers("at time 1", column, x.sumOf(2, 4, 15));
        Check.answers("at time 2", 13 + 10 + 7 + column, x.sumOf(2, 4, 2));
        Check.answers("at time 3", 13 + 15 + 11 + 17 * 3 + 19 * 3 + column, x.sumOf(2, 4, 3));
        Check.answers("the grace of three is over", 3, x.clean(2));
        Check.answers("as at a copy that took them at once", 3, x.clean(0));
        Check.holds("and the same is left", x.areAlike(0, 2));
    }

    // ---- reading

    static void theEntryAndAllTombstonesThatCoverTheCell() {
        Doc.says("Reading", "both tell what they have for it, that is its entry, and all tombstones that cover it.");
        int[][] near = {{5, 2}, {5, 0}, {4, 1}, {6, 1}};
        for (int[] cell : near) {
            WideCell x = new WideCell();
            x.write(1, cell[0], cell[1], 1, 1, 0);
            x.deleteCell(1, cell[0], cell[1], 0);
            x.read(0, 1, 5, 1);
            Check.answers("another cell, " + cell[0] + " " + cell[1], 0, x.repairs());
        }
        WideCell x = new WideCell();
        x.deleteColumn(1, 0, 1);
        x.deleteColumn(2, 2, 1);
        x.deleteRow(1, 4, 1);
        x.deleteRow(2, 6, 1);
        x.deleteRange(1, 0, 4, 1);
        x.deleteRange(2, 6, 15, 1);
        x.read(0, 1, 5, 1);
        Check.answers("tombstones that end beside the cell", 0, x.repairs());
        int[][] ranges = {{0, 5}, {5, 5}, {5, 15}, {4, 6}, {0, 15}};
        for (int i = 0; i < ranges.length; i++) {
            x.deleteRange(1, ranges[i][0], ranges[i][1], 0);
            x.read(0, 1, 5, 1);
            Check.answers("repairs with ranges that have the row", i + 1, x.repairs());
            Check.answers("they are taken, beside one that was there", i + 2, x.tombstones(1, WideCell.RANGE));
        }
    }

    static void aRepairIfBothDoNotHaveTheSame() {
        Doc.says("Reading", "If both do not have the same");
        WideCell x = new WideCell();
        Check.answers("both have nothing", WideCell.NONE, x.read(0, 1, 5, 1));
        x.write(7, 5, 1, 1, 1, 9);
        x.deleteCell(7, 5, 1, 0);
        x.deleteColumn(7, 1, 0);
        x.deleteRow(7, 5, 0);
        x.deleteRange(7, 5, 5, 0);
        Check.answers("both have all", 1, x.read(0, 1, 5, 1));
        Check.answers("no repair", 0, x.repairs());
        x.write(1, 5, 1, 1, 2, 9);
        expectRepair(x, 1, "stamp");
        x.write(1, 5, 1, 2, 2, 9);
        expectRepair(x, 2, "value");
        x.write(1, 5, 1, 2, 2, 10);
        expectRepair(x, 3, "end");
        x.write(1, 5, 1, 2, 2, 0);
        expectRepair(x, 4, "no end");
        x.pass(1);
        x.deleteCell(2, 5, 1, 0);
        expectRepair(x, 5, "CELL, time");
        x.deleteColumn(2, 1, 0);
        expectRepair(x, 6, "COLUMN, time");
        x.deleteRow(2, 5, 0);
        expectRepair(x, 7, "ROW, time");
        x.deleteRange(2, 5, 5, 0);
        expectRepair(x, 8, "RANGE, time");
        x.deleteCell(2, 5, 1, 1);
        expectRepair(x, 9, "CELL, stamp");
        x.deleteRange(2, 5, 6, 0);
        expectRepair(x, 10, "another RANGE");
    }

    /** One repair makes both the same, so that a second reading needs none. */
    private static void expectRepair(WideCell x, int want, String what) {
        x.read(1, 0, 5, 1);
        Check.answers("repairs, " + what, want, x.repairs());
        x.read(0, 1, 5, 1);
        Check.answers("repairs when read again, " + what, want, x.repairs());
    }

    static void eachTakesAllOfTheOther() {
        Doc.says("Reading", "each takes all that the other one has for the cell; that is a repair.");
        for (int first = 0; first < 2; first++) {
            WideCell x = new WideCell();
            x.write(1, 15, 3, 7, 7, 0);
            x.deleteCell(2, 15, 3, 1);
            x.deleteColumn(1, 3, 2);
            x.deleteRow(2, 15, 3);
            x.deleteRange(1, 15, 15, 4);
            x.deleteRange(2, 0, 15, 5);
            x.write(1, 15, 2, 8, 8, 0);
            x.deleteRange(1, 14, 14, 6);
            Check.answers("read", 7, x.read(first, 1 - first, 15, 3));
            Check.answers("one repair, though both take", 1, x.repairs());
            for (int copy = 0; copy < 2; copy++) {
                Check.answers("entry at " + copy, 7, x.valueAt(copy, 15, 3));
                Check.answers("burial at " + copy, 5, x.buriedBy(copy, 15, 3));
                Check.answers("CELL at " + copy, 1, x.tombstones(copy, WideCell.CELL));
                Check.answers("COLUMN at " + copy, 1, x.tombstones(copy, WideCell.COLUMN));
                Check.answers("ROW at " + copy, 1, x.tombstones(copy, WideCell.ROW));
                Check.answers("RANGE at " + copy, 3 - copy, x.tombstones(copy, WideCell.RANGE));
            }
            Check.answers("not another cell's entry", WideCell.NONE, x.stampAt(1, 15, 2));
            Check.answers("not the third copy", 0, x.sumOf(2, 0, 0));
        }
    }

    static void theValueThenIfItIsVisible() {
        Doc.says("Reading", "What is read is the value of the entry then, if it is visible.");
        for (int first = 0; first < 2; first++) {
            WideCell x = new WideCell();
            x.write(1, 0, 0, 0, 0, 0);
            Check.answers("value 0 of one", 0, x.read(first, 1 - first, 0, 0));
            x.write(1, 1, 0, 5, 5, 0);
            x.deleteRow(2, 1, 5);
            Check.answers("covered by the other's", WideCell.NONE, x.read(first, 1 - first, 1, 0));
            Check.answers("but taken from one", 5, x.stampAt(1, 1, 0));
            x.write(2, 1, 0, 6, 6, 0);
            Check.answers("the better one", 6, x.read(first, 1 - first, 1, 0));
            x.write(1, 2, 0, 5, 5, 2);
            x.write(2, 2, 0, 4, 4, 0);
            Check.answers("the better one has not expired", 5, x.read(first, 1 - first, 2, 0));
            x.write(1, 3, 0, 5, 5, 2);
            x.write(2, 3, 0, 4, 4, 0);
            x.pass(2);
            Check.answers("the better one has expired", WideCell.NONE, x.read(first, 1 - first, 3, 0));
            Check.answers("but is taken from one", 5, x.stampAt(1, 3, 0));
        }
    }

    // ---- cleaning

    static void theGraceIsTenAtFirst() {
        Doc.says("Cleaning", "The grace is 10 at first.");
        WideCell x = new WideCell();
        x.deleteRow(3, 0, 0);
        x.write(3, 1, 0, 1, 1, 1);
        x.pass(9);
        Check.answers("made 9 ago", 0, x.clean(0));
        x.pass(1);
        Check.answers("made 10 ago", 1, x.clean(0));
        x.pass(1);
        Check.answers("expired 10 ago", 1, x.clean(0));
        Check.answers("told", 10, x.setGrace(10));
    }

    static void cleaningDropsWhatIsCovered() {
        Doc.says("Cleaning", "To clean a copy is to drop all entries that are covered");
        for (int reach = WideCell.CELL; reach <= WideCell.RANGE; reach++) {
            WideCell x = new WideCell();
            x.write(1, 15, 3, 1, 4, 0);
            x.write(1, 14, 2, 1, 0, 0);
            deleteAt15And3(x, reach, 3);
            Check.answers("less stamp, reach " + reach, 0, x.clean(0));
            deleteAt15And3(x, reach, 4);
            Check.answers("same stamp, reach " + reach, 1, x.clean(0));
            Check.answers("it is gone, reach " + reach, WideCell.NONE, x.stampAt(0, 15, 3));
            Check.answers("another cell, reach " + reach, 0, x.stampAt(0, 14, 2));
            Check.answers("the tombstone stays, reach " + reach, 1, x.tombstones(0, reach));
        }
        WideCell x = new WideCell();
        for (int cell = 0; cell < 64; cell++) {
            x.write(1, cell / 4, cell % 4, 1, 0, 0);
        }
        x.deleteRange(1, 0, 15, 0);
        Check.answers("all cells", 64, x.clean(0));
        Check.answers("none is left", 0, x.entries(0));
    }

    private static void deleteAt15And3(WideCell x, int reach, int stamp) {
        switch (reach) {
            case WideCell.CELL -> x.deleteCell(1, 15, 3, stamp);
            case WideCell.COLUMN -> x.deleteColumn(1, 3, stamp);
            case WideCell.ROW -> x.deleteRow(1, 15, stamp);
            default -> x.deleteRange(1, 15, 15, stamp);
        }
    }

    static void cleaningDropsTombstonesFromTheGraceOn() {
        Doc.says("Cleaning", "then all tombstones that were made at least as long ago as the grace");
        for (int grace : new int[] {0, 1, 2, 99, 100, 999, 1000}) {
            for (int reach = WideCell.CELL; reach <= WideCell.RANGE; reach++) {
                for (int ago = Math.max(0, grace - 1); ago <= grace + 1; ago++) {
                    WideCell x = new WideCell();
                    x.setGrace(grace);
                    x.pass(5);
                    deleteAt15And3(x, reach, 999);
                    Start.passTo(x, 5 + ago);
                    int want = ago >= grace ? 1 : 0;
                    String what = "reach " + reach + ", grace " + grace + ", made " + ago + " ago";
                    Check.answers(what, want, x.clean(0));
                    Check.answers(what + ", left", 1 - want, x.tombstones(0, reach));
                }
            }
        }
    }

    static void cleaningDropsExpiredEntriesFromTheGraceOn() {
        Doc.says("Cleaning", "then all entries that expired at least as long ago as the grace.");
        for (int grace : new int[] {0, 1, 2, 99, 100, 999, 1000}) {
            for (int ago = grace - 1; ago <= grace + 1; ago++) {
                WideCell x = new WideCell();
                x.setGrace(grace);
                x.write(1, 15, 3, 1, 1, 7);
                x.write(1, 15, 2, 1, 1, 0);
                Start.passTo(x, 7 + ago);
                int want = ago >= grace ? 1 : 0;
                String what = "grace " + grace + ", expired " + ago + " ago";
                Check.answers(what, want, x.clean(0));
                Check.answers(what + ", left", 2 - want, x.entries(0));
                Check.answers(what + ", for ever", 1, x.valueAt(0, 15, 2));
            }
        }
        WideCell late = new WideCell();
        late.setGrace(0);
        late.write(1, 0, 0, 1, 1, 0);
        Start.passTo(late, 10000);
        Check.answers("no end, no grace, and the last time", 0, late.clean(0));
    }

    static void cleaningGoesInThisOrder() {
        Doc.says("Cleaning", "entries that are covered; then all tombstones that were made at least as long ago as the "
                + "grace; then all entries that expired");
        WideCell x = new WideCell();
        x.write(1, 0, 0, 1, 1, 0);
        x.deleteCell(1, 0, 0, 1);
        x.pass(10);
        Check.answers("a tombstone that goes takes its entry along", 2, x.clean(0));
        Check.answers("nothing is left", 0, x.sumOf(0, 0, 0));
        x.write(1, 0, 0, 1, 1, 1);
        x.deleteCell(1, 0, 0, 1);
        x.pass(11);
        Check.answers("one that is covered and expired counts once", 2, x.clean(0));
        x.deleteCell(1, 0, 0, 1);
        x.pass(10);
        Check.answers("a tombstone alone", 1, x.clean(0));
        x.write(1, 0, 0, 1, 1, 0);
        Check.answers("its stamp covers no more", 1, x.valueAt(0, 0, 0));
    }

    static void theIdealCopyIsNeverCleaned() {
        Doc.says("Cleaning", "The ideal copy is never cleaned.");
        WideCell x = new WideCell();
        x.setGrace(0);
        x.deleteCell(7, 0, 0, 5);
        x.deleteColumn(7, 1, 5);
        x.deleteRow(7, 2, 5);
        x.deleteRange(7, 3, 3, 5);
        x.write(7, 4, 0, 1, 5, 1);
        x.pass(1);
        for (int copy = 0; copy < 3; copy++) {
            Check.answers("copy " + copy, 5, x.clean(copy));
        }
        int[][] cells = {{0, 0}, {0, 1}, {2, 0}, {3, 0}, {4, 0}};
        for (int[] cell : cells) {
            x.write(7, cell[0], cell[1], 9, 4, 0);
            Check.answers("a copy forgets, row " + cell[0], 9, x.valueAt(2, cell[0], cell[1]));
            Check.answers("the ideal copy does not, row " + cell[0], WideCell.NONE, x.ideal(cell[0], cell[1]));
        }
    }
}
