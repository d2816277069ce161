/** Promises 7 to 13: copies that go down and come up, time, reading, making alike and cleaning. */
public final class CopiesTest {
    private CopiesTest() {
    }

    public static void main(String[] args) {
        setUp();
        hintsInOrder();
        hintsAreAtMostTen();
        tombstoneOfAHintHasItsOwnTime();
        entryOfAHintHasItsOwnEnd();
        loseHints();
        pass();
        passToTheLastTime();
        setGrace();
        readWithoutRepair();
        readRepairsBoth();
        readRepairsEveryReach();
        readRepairsOneCellOnly();
        readOfOtherTimes();
        readOfDifferencesThatAreNotSeen();
        readWrongly();
        makeAlike();
        makeAlikeEveryReach();
        makeAlikeRowByRow();
        makeAlikeMissesWhatSumsMiss();
        makeAlikeMissesWhatNodesMiss();
        makeAlikeWrongly();
        cleanCovered();
        cleanTombstones();
        cleanExpired();
        cleanInOrder();
        cleanWithoutGrace();
        cleanOneCopy();
        cleanWrongly();
        Check.end("CopiesTest");
    }

    private static void setUp() {
        WideCell x = new WideCell();
        Check.answers("7: up that is up", 0, x.setUp(1, true));
        Check.answers("7: down", 0, x.setUp(1, false));
        Check.fails("7: is down", x.isUp(1));
        Check.holds("7: another is up", x.isUp(0));
        Check.answers("7: down that is down", 0, x.setUp(1, false));
        x.write(7, 0, 0, 5, 5, 0);
        x.deleteRow(2, 1, 6);
        Check.answers("7: down again keeps hints", 0, x.setUp(1, false));
        Check.answers("7: hints", 2, x.hints(1));
        Check.answers("7: up", 2, x.setUp(1, true));
        Check.holds("7: is up", x.isUp(1));
        Check.answers("7: hints are gone", 0, x.hints(1));
        Check.answers("7: entry of a hint", 5, x.valueAt(1, 0, 0));
        Check.answers("7: tombstone of a hint", 6, x.buriedBy(1, 1, 3));
        Check.answers("7: up again takes none", 0, x.setUp(1, true));
        x.setUp(1, false);
        Check.answers("7: down and up takes none", 0, x.setUp(1, true));
        Check.noIndex("7: copy -1", () -> x.setUp(-1, true));
        Check.noIndex("7: copy 3", () -> x.setUp(3, false));
    }

    private static void hintsInOrder() {
        WideCell x = new WideCell();
        x.write(1, 0, 0, 9, 9, 0);
        x.setUp(0, false);
        x.write(1, 0, 0, 1, 1, 0);
        x.write(1, 0, 1, 2, 2, 0);
        x.write(1, 0, 1, 3, 3, 0);
        x.deleteCell(1, 0, 1, 1);
        x.deleteColumn(1, 2, 4);
        x.deleteRange(1, 5, 6, 7);
        Check.answers("7: nothing is taken yet", 1, x.entries(0));
        Check.answers("7: hints that are worse count too", 6, x.setUp(0, true));
        Check.answers("7: a better one stays", 9, x.valueAt(0, 0, 0));
        Check.answers("7: the better of two hints", 3, x.valueAt(0, 0, 1));
        Check.answers("7: cell's tombstone", 1, x.buriedBy(0, 0, 1));
        Check.answers("7: column's tombstone", 4, x.buriedBy(0, 15, 2));
        Check.answers("7: range's tombstone", 7, x.buriedBy(0, 6, 0));
    }

    private static void hintsAreAtMostTen() {
        WideCell x = new WideCell();
        x.setUp(2, false);
        for (int row = 0; row < 12; row++) {
            Check.answers("16: hints before " + row, Math.min(row, 10), x.hints(2));
            x.write(4, row, 0, row, 1, 0);
        }
        Check.answers("16: at most 10", 10, x.hints(2));
        Check.answers("16: of another copy", 0, x.hints(0));
        Check.answers("7: takes 10", 10, x.setUp(2, true));
        Check.answers("7: the tenth", 9, x.valueAt(2, 9, 0));
        Check.answers("7: the eleventh is lost", -1, x.valueAt(2, 10, 0));
        Check.answers("7: the twelfth is lost", -1, x.valueAt(2, 11, 0));
        Check.answers("7: not for the ideal copy", 11, x.ideal(11, 0));
        x.setUp(2, false);
        x.deleteRow(4, 0, 9);
        Check.answers("16: room again", 1, x.hints(2));
    }

    private static void tombstoneOfAHintHasItsOwnTime() {
        WideCell x = new WideCell();
        x.pass(3);
        x.setUp(0, false);
        x.deleteRow(3, 2, 6);
        x.pass(4);
        x.setUp(0, true);
        Check.answers("7: time of the call", 13 * 6 + 5 * 3 + 7, x.sumOf(0, 4, 2));
        Check.holds("7: as at the other copy", x.areAlike(0, 1));
    }

    private static void entryOfAHintHasItsOwnEnd() {
        WideCell x = new WideCell();
        x.setUp(0, false);
        x.write(1, 2, 0, 6, 5, 10);
        x.pass(9);
        x.setUp(0, true);
        Check.answers("7: not yet expired", 6, x.valueAt(0, 2, 0));
        x.pass(1);
        Check.answers("7: lives from the call on", -1, x.valueAt(0, 2, 0));
    }

    private static void loseHints() {
        WideCell x = new WideCell();
        Check.answers("8: none", 0, x.loseHints(0));
        x.setUp(0, false);
        x.setUp(1, false);
        x.write(3, 0, 0, 5, 5, 0);
        x.write(3, 0, 1, 5, 5, 0);
        Check.answers("8: two", 2, x.loseHints(0));
        Check.answers("8: gone", 0, x.hints(0));
        Check.answers("8: another copy keeps its own", 2, x.hints(1));
        Check.fails("8: still down", x.isUp(0));
        Check.answers("8: again", 0, x.loseHints(0));
        Check.answers("8: taken", 0, x.setUp(0, true));
        Check.answers("8: not there", 0, x.entries(0));
        Check.noIndex("8: copy -1", () -> x.loseHints(-1));
        Check.noIndex("8: copy 3", () -> x.loseHints(3));
    }

    private static void pass() {
        WideCell x = new WideCell();
        Check.answers("9: 1", 1, x.pass(1));
        Check.answers("9: 100", 101, x.pass(100));
        Check.answers("14: time", 101, x.time());
        Check.noArgument("9: 0", () -> x.pass(0));
        Check.noArgument("9: 101", () -> x.pass(101));
        Check.noArgument("9: -1", () -> x.pass(-1));
        Check.noArgument("9: the greatest number", () -> x.pass(Integer.MAX_VALUE));
        Check.answers("14: the same time", 101, x.time());
    }

    private static void passToTheLastTime() {
        WideCell x = new WideCell();
        for (int i = 0; i < 99; i++) {
            x.pass(100);
        }
        x.pass(99);
        Check.noState("9: above 10000", () -> x.pass(2));
        Check.noArgument("9: above 10000, and out of range", () -> x.pass(101));
        Check.answers("9: to 10000", 10000, x.pass(1));
        Check.noState("9: beyond 10000", () -> x.pass(1));
        Check.answers("14: the last time", 10000, x.time());
        x.write(7, 0, 0, 5, 5, 1000);
        Check.answers("2: an end above 10000", 5, x.valueAt(0, 0, 0));
        x.write(7, 0, 0, 5, 5, 0);
        Check.answers("2: for ever is later", 31 * 5 + 7 * 5 + 20000 + 1, x.sumOf(0, 4, 0));
        x.write(7, 0, 0, 5, 5, 1000);
        Check.answers("2: and stays", 31 * 5 + 7 * 5 + 20000 + 1, x.sumOf(0, 4, 0));
    }

    private static void setGrace() {
        WideCell x = new WideCell();
        Check.answers("10: at first", 10, x.setGrace(0));
        Check.answers("10: 0 before", 0, x.setGrace(1000));
        Check.answers("10: 1000 before", 1000, x.setGrace(3));
        Check.noArgument("10: -1", () -> x.setGrace(-1));
        Check.noArgument("10: 1001", () -> x.setGrace(1001));
        Check.answers("10: kept", 3, x.setGrace(3));
    }

    private static void readWithoutRepair() {
        WideCell x = new WideCell();
        Check.answers("11: empty", -1, x.read(0, 1, 0, 0));
        x.write(7, 0, 0, 5, 5, 10);
        x.deleteRow(7, 0, 4);
        Check.answers("11: same", 5, x.read(0, 1, 0, 0));
        Check.answers("11: same, the other way", 5, x.read(2, 1, 0, 0));
        x.pass(10);
        Check.answers("11: expired", -1, x.read(0, 1, 0, 0));
        Check.answers("17: none", 0, x.repairs());
    }

    private static void readRepairsBoth() {
        WideCell x = new WideCell();
        x.write(1, 15, 3, 5, 5, 0);
        Check.answers("11: from the other", 5, x.read(1, 0, 15, 3));
        Check.answers("11: taken by the first", 5, x.valueAt(1, 15, 3));
        Check.answers("17: one", 1, x.repairs());
        Check.answers("11: again", 5, x.read(1, 0, 15, 3));
        Check.answers("17: still one", 1, x.repairs());
        Check.answers("11: not the third", -1, x.valueAt(2, 15, 3));
        Check.answers("11: from the first", 5, x.read(1, 2, 15, 3));
        Check.answers("11: taken by the other", 5, x.valueAt(2, 15, 3));
        Check.answers("17: two", 2, x.repairs());
        x.write(1, 4, 0, 6, 6, 0);
        x.write(2, 4, 0, 7, 7, 0);
        x.deleteCell(1, 4, 0, 3);
        x.deleteRow(2, 4, 7);
        Check.answers("11: both ways", -1, x.read(0, 1, 4, 0));
        Check.answers("17: a repair both ways is one", 3, x.repairs());
        Check.answers("11: better entry", 7, x.stampAt(0, 4, 0));
        Check.answers("11: row's tombstone", 1, x.tombstones(0, WideCell.ROW));
        Check.answers("11: cell's tombstone", 1, x.tombstones(1, WideCell.CELL));
        Check.answers("11: ideal is as it was", -1, x.ideal(4, 0));
    }

    private static void readRepairsEveryReach() {
        WideCell x = new WideCell();
        x.deleteCell(1, 6, 1, 1);
        x.deleteColumn(1, 1, 2);
        x.deleteRow(1, 6, 3);
        x.deleteRange(1, 6, 8, 4);
        x.deleteRange(1, 2, 6, 5);
        x.deleteRange(1, 7, 9, 6);
        Check.answers("11: nothing to see", -1, x.read(0, 1, 6, 1));
        Check.answers("17: but a repair", 1, x.repairs());
        Check.answers("11: CELL", 1, x.tombstones(1, WideCell.CELL));
        Check.answers("11: COLUMN", 1, x.tombstones(1, WideCell.COLUMN));
        Check.answers("11: ROW", 1, x.tombstones(1, WideCell.ROW));
        Check.answers("11: RANGE, those that cover it", 2, x.tombstones(1, WideCell.RANGE));
        Check.answers("11: buried", 5, x.buriedBy(1, 6, 1));
        Check.answers("11: column elsewhere", 2, x.buriedBy(1, 0, 1));
    }

    private static void readRepairsOneCellOnly() {
        WideCell x = new WideCell();
        x.write(1, 6, 1, 1, 1, 0);
        x.write(1, 6, 2, 2, 1, 0);
        x.write(1, 7, 1, 3, 1, 0);
        x.deleteCell(1, 6, 2, 0);
        x.deleteColumn(1, 2, 0);
        x.deleteRow(1, 7, 0);
        x.deleteRange(1, 7, 8, 0);
        x.read(0, 1, 6, 1);
        Check.answers("11: one entry", 1, x.entries(1));
        for (int reach = 0; reach < 4; reach++) {
            Check.answers("11: no tombstone of reach " + reach, 0, x.tombstones(1, reach));
        }
        Check.answers("11: another cell is the same", -1, x.read(0, 1, 15, 0));
        Check.answers("17: one repair", 1, x.repairs());
    }

    private static void readOfOtherTimes() {
        WideCell x = new WideCell();
        x.deleteRow(1, 3, 5);
        x.pass(2);
        x.deleteRow(2, 3, 5);
        x.read(0, 1, 3, 0);
        Check.answers("17: made at other times", 1, x.repairs());
        Check.answers("11: the later one", 13 * 5 + 5 * 2 + 7, x.sumOf(0, 4, 3));
        x.write(1, 4, 0, 5, 5, 0);
        x.write(2, 4, 0, 5, 5, 9);
        x.read(1, 0, 4, 0);
        Check.answers("17: other ends", 2, x.repairs());
        Check.answers("11: for ever", 31 * 5 + 7 * 5 + 20000 + 1, x.sumOf(1, 4, 4));
    }

    private static void readOfDifferencesThatAreNotSeen() {
        WideCell x = new WideCell();
        x.write(1, 4, 0, 5, 5, 3);
        x.pass(3);
        Check.answers("11: expired at one", -1, x.read(0, 1, 4, 0));
        Check.answers("11: expired is taken", 5, x.stampAt(1, 4, 0));
        x.write(1, 5, 0, 5, 5, 0);
        x.deleteRow(3, 5, 5);
        Check.answers("11: covered at one", -1, x.read(1, 0, 5, 0));
        Check.answers("11: covered is taken", 5, x.stampAt(1, 5, 0));
        Check.answers("17: both were repairs", 2, x.repairs());
    }

    private static void readWrongly() {
        WideCell x = new WideCell();
        x.write(1, 0, 0, 5, 5, 0);
        Check.noIndex("11: copy -1", () -> x.read(-1, 1, 0, 0));
        Check.noIndex("11: copy 3", () -> x.read(3, 1, 0, 0));
        Check.noIndex("11: other -1", () -> x.read(0, -1, 0, 0));
        Check.noIndex("11: other 3", () -> x.read(0, 3, 0, 0));
        Check.noIndex("11: both 3", () -> x.read(3, 3, 0, 0));
        Check.noIndex("11: row -1", () -> x.read(0, 1, -1, 0));
        Check.noIndex("11: row 16", () -> x.read(0, 1, 16, 0));
        Check.noIndex("11: column -1", () -> x.read(0, 1, 0, -1));
        Check.noIndex("11: column 4", () -> x.read(0, 1, 0, 4));
        Check.noIndex("11: same, and no row", () -> x.read(1, 1, 16, 0));
        Check.noArgument("11: same", () -> x.read(1, 1, 0, 0));
        x.setUp(1, false);
        Check.noState("11: other is down", () -> x.read(0, 1, 0, 0));
        Check.noState("11: copy is down", () -> x.read(1, 0, 0, 0));
        Check.noArgument("11: same, and down", () -> x.read(1, 1, 0, 0));
        Check.noIndex("11: down, and no column", () -> x.read(0, 1, 0, 4));
        Check.answers("11: nothing was taken", 0, x.entries(1));
        Check.answers("17: nothing was repaired", 0, x.repairs());
        Check.answers("11: two that are up", 5, x.read(2, 0, 0, 0));
    }

    private static void makeAlike() {
        WideCell x = new WideCell();
        Check.answers("12: empty", 0, x.makeAlike(0, 1));
        x.write(1, 0, 0, 5, 5, 0);
        x.write(2, 15, 3, 6, 6, 50);
        x.write(3, 7, 1, 8, 8, 0);
        x.write(1, 9, 0, 1, 5, 0);
        x.write(2, 9, 0, 2, 5, 0);
        Check.answers("12: three rows", 3, x.makeAlike(1, 0));
        Check.holds("12: alike", x.areAlike(0, 1));
        Check.answers("12: to the other", 5, x.valueAt(1, 0, 0));
        Check.answers("12: to the first", 6, x.valueAt(0, 15, 3));
        Check.answers("12: the better one", 2, x.valueAt(0, 9, 0));
        Check.answers("12: four entries", 4, x.entries(1));
        Check.answers("12: no rows now", 0, x.makeAlike(0, 1));
        Check.answers("12: the third has none", 0, x.entries(2));
        Check.answers("17: it is no repair", 0, x.repairs());
    }

    private static void makeAlikeEveryReach() {
        WideCell x = new WideCell();
        x.deleteCell(1, 6, 1, 1);
        x.deleteCell(2, 6, 2, 2);
        x.deleteRow(1, 6, 3);
        x.deleteRange(2, 5, 6, 4);
        Check.answers("12: rows 5 and 6", 2, x.makeAlike(0, 1));
        Check.holds("12: alike", x.areAlike(0, 1));
        Check.answers("12: CELL", 2, x.tombstones(0, WideCell.CELL));
        Check.answers("12: ROW", 1, x.tombstones(1, WideCell.ROW));
        Check.answers("12: RANGE", 1, x.tombstones(0, WideCell.RANGE));
        x.deleteColumn(2, 3, 9);
        Check.answers("12: a column is in all rows", 16, x.makeAlike(0, 1));
        Check.answers("12: COLUMN", 1, x.tombstones(0, WideCell.COLUMN));
        Check.holds("12: alike again", x.areAlike(0, 1));
    }

    private static void makeAlikeRowByRow() {
        WideCell x = new WideCell();
        // In row 3 both sums are the same, 31 * 7 = 7 * 31, so it is left as it is.
        x.write(1, 3, 0, 0, 7, 0);
        x.write(2, 3, 0, 31, 0, 0);
        x.write(1, 4, 0, 5, 5, 0);
        Check.answers("12: row 4 alone", 1, x.makeAlike(0, 1));
        Check.answers("12: row 4 taken", 5, x.valueAt(1, 4, 0));
        Check.answers("12: row 3 is left at 0", 0, x.valueAt(0, 3, 0));
        Check.answers("12: row 3 is left at 1", 31, x.valueAt(1, 3, 0));
        Check.fails("27: not alike", x.areAlike(0, 1));
    }

    private static void makeAlikeMissesWhatSumsMiss() {
        WideCell x = new WideCell();
        x.write(1, 3, 0, 0, 7, 0);
        x.write(2, 3, 0, 31, 0, 0);
        Check.answers("12: sums do not differ", 0, x.makeAlike(0, 1));
        Check.fails("27: they are not alike all the same", x.areAlike(0, 1));
        Check.answers("25: the root alone", 1, x.compared(0, 1));
        Check.answers("11: reading sees it", 0, x.read(0, 1, 3, 0));
        Check.holds("11: and repairs it", x.areAlike(0, 1));
    }

    private static void makeAlikeMissesWhatNodesMiss() {
        WideCell x = new WideCell();
        // Rows 2 and 3 differ, but their node has the same sum at both copies.
        x.write(1, 2, 0, 5, 5, 0);
        x.write(2, 3, 0, 5, 5, 0);
        Check.answers("12: no row is found", 0, x.makeAlike(0, 1));
        Check.answers("26: no row is found", 0, x.unlike(0, 1));
        Check.answers("12: nothing is taken", 1, x.entries(0));
        x.write(1, 12, 0, 1, 1, 0);
        Check.answers("26: only row 12", 1 << 12, x.unlike(0, 1));
        Check.answers("12: only row 12", 1, x.makeAlike(0, 1));
        Check.answers("12: row 12 is taken", 2, x.entries(1));
    }

    private static void makeAlikeWrongly() {
        WideCell x = new WideCell();
        x.write(1, 0, 0, 5, 5, 0);
        Check.noIndex("12: copy -1", () -> x.makeAlike(-1, 0));
        Check.noIndex("12: copy 3", () -> x.makeAlike(3, 0));
        Check.noIndex("12: other -1", () -> x.makeAlike(0, -1));
        Check.noIndex("12: other 3", () -> x.makeAlike(0, 3));
        Check.noIndex("12: both 3", () -> x.makeAlike(3, 3));
        Check.noArgument("12: same", () -> x.makeAlike(0, 0));
        x.setUp(0, false);
        Check.noState("12: copy is down", () -> x.makeAlike(0, 1));
        Check.noState("12: other is down", () -> x.makeAlike(1, 0));
        Check.noArgument("12: same, and down", () -> x.makeAlike(0, 0));
        Check.noIndex("12: down, and no copy", () -> x.makeAlike(0, 3));
        Check.answers("12: nothing was taken", 0, x.entries(1));
    }

    private static void cleanCovered() {
        WideCell x = new WideCell();
        x.write(1, 0, 0, 5, 5, 0);
        x.write(1, 0, 1, 6, 6, 0);
        x.write(1, 1, 0, 7, 0, 0);
        x.deleteRow(1, 0, 5);
        x.deleteRange(1, 1, 2, 0);
        Check.answers("13: two are covered", 2, x.clean(0));
        Check.answers("13: one is left", 1, x.entries(0));
        Check.answers("13: which is not covered", 6, x.valueAt(0, 0, 1));
        Check.answers("13: no stamp is left", -1, x.stampAt(0, 0, 0));
        Check.answers("13: tombstones are young", 1, x.tombstones(0, WideCell.ROW));
        Check.answers("13: again", 0, x.clean(0));
        Check.answers("13: only tombstones and the entry count", 13 * 5 + 7 + 31 * 6 + 7 * 6 + 20000 + 1 + 1,
                x.sumOf(0, 4, 0));
    }

    private static void cleanTombstones() {
        WideCell x = new WideCell();
        x.deleteCell(1, 0, 0, 1);
        x.deleteColumn(1, 0, 2);
        x.deleteRow(1, 0, 3);
        x.deleteRange(1, 0, 0, 4);
        x.pass(1);
        x.deleteCell(1, 1, 0, 5);
        x.pass(8);
        Check.answers("13: 9 ago", 0, x.clean(0));
        x.pass(1);
        Check.answers("13: 10 ago", 4, x.clean(0));
        Check.answers("13: the young one stays", 1, x.tombstones(0, WideCell.CELL));
        Check.answers("13: it is that of row 1", 5, x.buriedBy(0, 1, 0));
        Check.answers("13: not that of row 0", -1, x.buriedBy(0, 0, 0));
        x.setGrace(9);
        Check.answers("13: another grace", 1, x.clean(0));
        Check.answers("13: none is left", 0, x.sumOf(0, 0, 0));
        x.deleteCell(1, 0, 0, 0);
        Check.answers("13: it may come again, with less", 0, x.buriedBy(0, 0, 0));
    }

    private static void cleanExpired() {
        WideCell x = new WideCell();
        x.write(1, 0, 0, 5, 5, 3);
        x.write(1, 0, 1, 6, 6, 4);
        x.write(1, 0, 2, 7, 7, 0);
        x.pass(12);
        Check.answers("13: expired 9 ago", 0, x.clean(0));
        x.pass(1);
        Check.answers("13: expired 10 ago", 1, x.clean(0));
        Check.answers("13: dropped", -1, x.stampAt(0, 0, 0));
        Check.answers("13: expired 9 ago stays", 6, x.stampAt(0, 0, 1));
        x.setGrace(1000);
        Check.answers("13: a long grace", 0, x.clean(0));
        x.setGrace(9);
        Check.answers("13: a shorter grace", 1, x.clean(0));
        Check.answers("13: no end, no dropping", 7, x.valueAt(0, 0, 2));
    }

    private static void cleanInOrder() {
        WideCell x = new WideCell();
        x.write(1, 0, 0, 5, 5, 0);
        x.deleteRow(1, 0, 5);
        x.pass(10);
        Check.answers("13: covered by what is dropped then", 2, x.clean(0));
        Check.answers("13: the entry is gone", 0, x.entries(0));
        Check.answers("13: the tombstone is gone", 0, x.tombstones(0, WideCell.ROW));
        x.write(1, 1, 0, 5, 5, 3);
        x.deleteCell(1, 1, 0, 9);
        x.pass(13);
        Check.answers("13: covered and expired counts once", 2, x.clean(0));
    }

    private static void cleanWithoutGrace() {
        WideCell x = new WideCell();
        x.setGrace(0);
        x.write(1, 0, 0, 5, 5, 3);
        x.write(1, 0, 1, 5, 5, 4);
        x.deleteCell(1, 1, 1, 0);
        Check.answers("13: made now", 1, x.clean(0));
        x.pass(2);
        Check.answers("13: not expired", 0, x.clean(0));
        x.pass(1);
        Check.answers("13: expired now", 1, x.clean(0));
        Check.answers("13: lives", 5, x.valueAt(0, 0, 1));
    }

    private static void cleanOneCopy() {
        WideCell x = new WideCell();
        x.write(7, 0, 0, 5, 5, 0);
        x.deleteRow(7, 0, 5);
        x.pass(10);
        x.clean(1);
        Check.answers("13: copy 0 is as it was", 1, x.entries(0));
        Check.answers("13: copy 2 is as it was", 1, x.tombstones(2, WideCell.ROW));
        x.write(7, 0, 0, 4, 4, 0);
        Check.answers("13: a cleaned copy takes it again", 4, x.valueAt(1, 0, 0));
        Check.answers("13: the ideal copy is never cleaned", -1, x.ideal(0, 0));
        Check.answers("13: what was dropped comes back", -1, x.read(0, 1, 0, 0));
        Check.answers("13: with its stamp", 5, x.stampAt(1, 0, 0));
    }

    private static void cleanWrongly() {
        WideCell x = new WideCell();
        x.setGrace(0);
        x.deleteRow(7, 0, 5);
        x.setUp(2, false);
        Check.noIndex("13: copy -1", () -> x.clean(-1));
        Check.noIndex("13: copy 3", () -> x.clean(3));
        Check.noState("13: down", () -> x.clean(2));
        Check.answers("13: nothing was dropped", 1, x.tombstones(2, WideCell.ROW));
        Check.answers("13: another copy", 1, x.clean(1));
    }
}
