import java.util.ArrayList;
import java.util.Arrays;

/**
 * A sparse table of 16 rows and 4 columns that is kept in three copies, and in an ideal copy that gets
 * everything at once. The answers are those of the document's promises; README.md tells how to use it.
 */
public final class WideCell {
    public static final int NONE = -1, NEVER = -1;
    public static final int CELL = 0, COLUMN = 1, ROW = 2, RANGE = 3;

    private static final int COPIES = 3;
    private static final int ALL_COPIES = 7;
    private static final int ROWS = 16;
    private static final int COLUMNS = 4;
    private static final int CELLS = ROWS * COLUMNS;
    private static final int LAST_LEVEL = 4;
    private static final int MOST_RANGES = 8;
    private static final int MOST_HINTS = 10;
    private static final int MOST_VALUE = 999;
    private static final int MOST_STAMP = 999;
    private static final int MOST_LIFE = 1000;
    private static final int MOST_TICKS = 100;
    private static final int MOST_GRACE = 1000;
    private static final int LAST_TIME = 10000;
    private static final int AFTER_ALL_TIMES = LAST_TIME + MOST_LIFE + 1;

    // Each reach that a tombstone can have is a place of its own: a cell's place is its number.
    private static final int FIRST_COLUMN = CELLS;
    private static final int FIRST_ROW = FIRST_COLUMN + COLUMNS;
    private static final int FIRST_RANGE = FIRST_ROW + ROWS;
    private static final int PLACES = FIRST_RANGE + MOST_RANGES;
    // A cell is covered from its own place, its column's, its row's and those of ranges.
    private static final int COVERS = 3 + MOST_RANGES;

    private static final int MODULUS = 65521;
    private static final int NEVER_IN_SUMS = 20000;
    // Nodes are numbered as in a heap: 1 is the root, below the node n are 2n and 2n + 1, rows come last.
    private static final int NODES = 2 * ROWS;

    private final Ranges ranges;
    private final Table idealTable;
    private final Keeper[] keepers;
    private final Comparison comparison;
    private int now;
    private int grace;
    private int repairCount;

    public WideCell() {
        ranges = new Ranges();
        idealTable = new Table(ranges);
        keepers = new Keeper[COPIES];
        for (int copy = 0; copy < COPIES; copy++) {
            keepers[copy] = new Keeper(new Table(ranges));
        }
        comparison = new Comparison();
        now = 0;
        grace = 10;
        repairCount = 0;
    }

    // ---- writing

    public int write(int copies, int row, int column, int value, int stamp, int life)
            throws IndexOutOfBoundsException, IllegalArgumentException {
        requireRow(row);
        requireColumn(column);
        requireArgument(isWithin(copies, ALL_COPIES));
        requireArgument(isWithin(value, MOST_VALUE));
        requireArgument(isWithin(stamp, MOST_STAMP));
        requireArgument(isWithin(life, MOST_LIFE));
        int end = life == 0 ? NEVER : now + life;
        return send(copies, new EntryChange(cellAt(row, column), value, stamp, end));
    }

    public int deleteCell(int copies, int row, int column, int stamp)
            throws IndexOutOfBoundsException, IllegalArgumentException {
        requireRow(row);
        requireColumn(column);
        requireDeletion(copies, stamp);
        return send(copies, new TombstoneChange(cellAt(row, column), stamp, now));
    }

    public int deleteColumn(int copies, int column, int stamp)
            throws IndexOutOfBoundsException, IllegalArgumentException {
        requireColumn(column);
        requireDeletion(copies, stamp);
        return send(copies, new TombstoneChange(FIRST_COLUMN + column, stamp, now));
    }

    public int deleteRow(int copies, int row, int stamp)
            throws IndexOutOfBoundsException, IllegalArgumentException {
        requireRow(row);
        requireDeletion(copies, stamp);
        return send(copies, new TombstoneChange(FIRST_ROW + row, stamp, now));
    }

    public int deleteRange(int copies, int from, int to, int stamp)
            throws IndexOutOfBoundsException, IllegalArgumentException, IllegalStateException {
        requireRow(from);
        requireRow(to);
        requireDeletion(copies, stamp);
        requireArgument(from <= to);
        int range = ranges.numberOf(from, to);
        requireState(range != NONE);
        return send(copies, new TombstoneChange(FIRST_RANGE + range, stamp, now));
    }

    // ---- copies and time

    public int setUp(int copy, boolean isUp) throws IndexOutOfBoundsException {
        Keeper keeper = keeperOf(copy);
        return isUp ? keeper.comeUp() : keeper.goDown();
    }

    public int loseHints(int copy) throws IndexOutOfBoundsException {
        return keeperOf(copy).dropHints();
    }

    public int pass(int ticks) throws IllegalArgumentException, IllegalStateException {
        requireArgument(ticks >= 1 && ticks <= MOST_TICKS);
        requireState(now + ticks <= LAST_TIME);
        now += ticks;
        return now;
    }

    public int setGrace(int ticks) throws IllegalArgumentException {
        requireArgument(isWithin(ticks, MOST_GRACE));
        int before = grace;
        grace = ticks;
        return before;
    }

    public int read(int copy, int other, int row, int column)
            throws IndexOutOfBoundsException, IllegalArgumentException, IllegalStateException {
        Table one = tableOf(copy);
        Table two = tableOf(other);
        requireRow(row);
        requireColumn(column);
        requireTwoUp(copy, other);
        if (!one.hasSameFor(row, column, two)) {
            one.takeCellFrom(two, row, column);
            two.takeCellFrom(one, row, column);
            repairCount++;
        }
        return one.visibleValue(row, column, now);
    }

    public int makeAlike(int copy, int other)
            throws IndexOutOfBoundsException, IllegalArgumentException, IllegalStateException {
        Table one = tableOf(copy);
        Table two = tableOf(other);
        requireTwoUp(copy, other);
        comparison.compareNodes(one, two);
        int unlikeRows = comparison.unlikeRows();
        for (int row = 0; row < ROWS; row++) {
            if (isInSet(row, unlikeRows)) {
                one.takeRowFrom(two, row);
                two.takeRowFrom(one, row);
            }
        }
        return Integer.bitCount(unlikeRows);
    }

    public int clean(int copy) throws IndexOutOfBoundsException, IllegalStateException {
        Keeper keeper = keeperOf(copy);
        requireState(keeper.isRunning);
        // The order matters: a tombstone that is too old still drops what it covers.
        int covered = keeper.table.dropCovered();
        int tombstones = keeper.table.dropTombstonesMadeBy(now - grace);
        int expired = keeper.table.dropEntriesEndedBy(now - grace);
        return covered + tombstones + expired;
    }

    // ---- what copies have

    public int time() {
        return now;
    }

    public boolean isUp(int copy) throws IndexOutOfBoundsException {
        return keeperOf(copy).isRunning;
    }

    public int hints(int copy) throws IndexOutOfBoundsException {
        return keeperOf(copy).waiting.size();
    }

    public int repairs() {
        return repairCount;
    }

    public int valueAt(int copy, int row, int column) throws IndexOutOfBoundsException {
        Table table = tableOf(copy);
        requireRow(row);
        requireColumn(column);
        return table.visibleValue(row, column, now);
    }

    public int stampAt(int copy, int row, int column) throws IndexOutOfBoundsException {
        Table table = tableOf(copy);
        requireRow(row);
        requireColumn(column);
        return table.stamps[cellAt(row, column)];
    }

    public int buriedBy(int copy, int row, int column) throws IndexOutOfBoundsException {
        Table table = tableOf(copy);
        requireRow(row);
        requireColumn(column);
        return table.greatestBurial(row, column);
    }

    public int tombstones(int copy, int reach) throws IndexOutOfBoundsException, IllegalArgumentException {
        Table table = tableOf(copy);
        requireArgument(isWithin(reach, RANGE));
        return table.countTombstones(reach);
    }

    public int entries(int copy) throws IndexOutOfBoundsException {
        return tableOf(copy).countEntries();
    }

    public int ideal(int row, int column) throws IndexOutOfBoundsException {
        requireRow(row);
        requireColumn(column);
        return idealTable.visibleValue(row, column, now);
    }

    // ---- sums

    public int sumOf(int copy, int level, int node) throws IndexOutOfBoundsException {
        Table table = tableOf(copy);
        requireIndex(isWithin(level, LAST_LEVEL));
        int nodesOfLevel = 1 << level;
        requireIndex(isWithin(node, nodesOfLevel - 1));
        return comparison.nodeSum(table, nodesOfLevel + node);
    }

    public int compared(int copy, int other) throws IndexOutOfBoundsException {
        return comparison.compareNodes(tableOf(copy), tableOf(other));
    }

    public int unlike(int copy, int other) throws IndexOutOfBoundsException {
        comparison.compareNodes(tableOf(copy), tableOf(other));
        return comparison.unlikeRows();
    }

    public boolean areAlike(int copy, int other) throws IndexOutOfBoundsException {
        return tableOf(copy).hasSameAs(tableOf(other));
    }

    // ---- arguments

    private static boolean isWithin(int number, int most) {
        return number >= 0 && number <= most;
    }

    private static void requireIndex(boolean isThere) {
        if (!isThere) {
            throw new IndexOutOfBoundsException("no such copy, row, column, level or node");
        }
    }

    private static void requireArgument(boolean isInRange) {
        if (!isInRange) {
            throw new IllegalArgumentException("an argument is out of its range");
        }
    }

    private static void requireState(boolean isAllowed) {
        if (!isAllowed) {
            throw new IllegalStateException("not in this state");
        }
    }

    private static void requireRow(int row) {
        requireIndex(isWithin(row, ROWS - 1));
    }

    private static void requireColumn(int column) {
        requireIndex(isWithin(column, COLUMNS - 1));
    }

    private static void requireDeletion(int copies, int stamp) {
        requireArgument(isWithin(copies, ALL_COPIES));
        requireArgument(isWithin(stamp, MOST_STAMP));
    }

    private void requireTwoUp(int copy, int other) {
        requireArgument(copy != other);
        requireState(keeperOf(copy).isRunning && keeperOf(other).isRunning);
    }

    private Keeper keeperOf(int copy) {
        requireIndex(isWithin(copy, COPIES - 1));
        return keepers[copy];
    }

    private Table tableOf(int copy) {
        return keeperOf(copy).table;
    }

    private static int cellAt(int row, int column) {
        return row * COLUMNS + column;
    }

    private static boolean isInSet(int member, int set) {
        return ((set >> member) & 1) == 1;
    }

    private int send(int copies, Change change) {
        change.goTo(idealTable);
        int taken = 0;
        for (int copy = 0; copy < COPIES; copy++) {
            if (isInSet(copy, copies) && keepers[copy].receive(change)) {
                taken++;
            }
        }
        return taken;
    }

    /** What was written or deleted, as it goes to a table now or waits as a hint. */
    private abstract static class Change {
        abstract void goTo(Table table);
    }

    private static final class EntryChange extends Change {
        private final int cell;
        private final int value;
        private final int stamp;
        private final int end;

        EntryChange(int cell, int value, int stamp, int end) {
            this.cell = cell;
            this.value = value;
            this.stamp = stamp;
            this.end = end;
        }

        void goTo(Table table) {
            table.takeEntry(cell, value, stamp, end);
        }
    }

    private static final class TombstoneChange extends Change {
        private final int place;
        private final int stamp;
        private final int madeAt;

        TombstoneChange(int place, int stamp, int madeAt) {
            this.place = place;
            this.stamp = stamp;
            this.madeAt = madeAt;
        }

        void goTo(Table table) {
            table.takeTombstone(place, stamp, madeAt);
        }
    }

    /** A copy that can be asked for: its table, whether it is up, and the hints that wait for it. */
    private static final class Keeper {
        private final Table table;
        private final ArrayList<Change> waiting = new ArrayList<Change>();
        private boolean isRunning = true;

        Keeper(Table table) {
            this.table = table;
        }

        /** Answers whether it is taken at once. */
        boolean receive(Change change) {
            if (isRunning) {
                change.goTo(table);
            } else if (waiting.size() < MOST_HINTS) {
                waiting.add(change);
            }
            return isRunning;
        }

        int comeUp() {
            isRunning = true;
            for (int i = 0; i < waiting.size(); i++) {
                waiting.get(i).goTo(table);
            }
            return dropHints();
        }

        int goDown() {
            isRunning = false;
            return 0;
        }

        int dropHints() {
            int dropped = waiting.size();
            waiting.clear();
            return dropped;
        }
    }

    /** All ranges that were ever deleted, numbered in the order of their first deletion. */
    private static final class Ranges {
        private final int[] firsts = new int[MOST_RANGES];
        private final int[] lasts = new int[MOST_RANGES];

        Ranges() {
            // A range that is not there yet begins and ends before all rows, so it has none of them.
            Arrays.fill(firsts, NONE);
            Arrays.fill(lasts, NONE);
        }

        /** The number of a range, which is kept if it is new; NONE if there is no room for it. */
        int numberOf(int from, int to) {
            for (int range = 0; range < MOST_RANGES; range++) {
                if (firsts[range] == NONE) {
                    firsts[range] = from;
                    lasts[range] = to;
                }
                if (firsts[range] == from && lasts[range] == to) {
                    return range;
                }
            }
            return NONE;
        }

        boolean has(int range, int row) {
            return firsts[range] <= row && row <= lasts[range];
        }

        int partOfSum(int range) {
            return 17 * firsts[range] + 19 * lasts[range];
        }
    }

    /** The entries and tombstones of one copy. */
    private static final class Table {
        private final Ranges ranges;
        // A stamp NONE tells that there is no entry or tombstone; it is less than all stamps that there are,
        // so that taking such a one from another table changes nothing.
        private final int[] stamps = new int[CELLS];
        private final int[] values = new int[CELLS];
        private final int[] ends = new int[CELLS];
        private final int[] burials = new int[PLACES];
        private final int[] madeAts = new int[PLACES];

        Table(Ranges ranges) {
            this.ranges = ranges;
            Arrays.fill(stamps, NONE);
            Arrays.fill(burials, NONE);
        }

        void takeEntry(int cell, int value, int stamp, int end) {
            if (isBetterEntry(cell, value, stamp, end)) {
                putEntry(cell, value, stamp, end);
            }
        }

        private boolean isBetterEntry(int cell, int value, int stamp, int end) {
            if (stamp != stamps[cell]) {
                return stamp > stamps[cell];
            }
            if (value != values[cell]) {
                return value > values[cell];
            }
            return endRank(end) > endRank(ends[cell]);
        }

        private static int endRank(int end) {
            return end == NEVER ? AFTER_ALL_TIMES : end;
        }

        private void putEntry(int cell, int value, int stamp, int end) {
            stamps[cell] = stamp;
            values[cell] = value;
            ends[cell] = end;
        }

        void takeTombstone(int place, int stamp, int madeAt) {
            boolean isBetter = stamp == burials[place] ? madeAt > madeAts[place] : stamp > burials[place];
            if (isBetter) {
                putTombstone(place, stamp, madeAt);
            }
        }

        private void putTombstone(int place, int stamp, int madeAt) {
            burials[place] = stamp;
            madeAts[place] = madeAt;
        }

        /** The place of the cover with this number, 0 to COVERS - 1, of a cell; NONE if it leaves the cell out. */
        private int coverPlace(int row, int column, int cover) {
            switch (cover) {
                case 0:
                    return cellAt(row, column);
                case 1:
                    return FIRST_COLUMN + column;
                case 2:
                    return FIRST_ROW + row;
                default:
                    int range = cover - 3;
                    return ranges.has(range, row) ? FIRST_RANGE + range : NONE;
            }
        }

        int greatestBurial(int row, int column) {
            int greatest = NONE;
            for (int cover = 0; cover < COVERS; cover++) {
                int place = coverPlace(row, column, cover);
                if (place != NONE) {
                    greatest = Math.max(greatest, burials[place]);
                }
            }
            return greatest;
        }

        private boolean isCovered(int row, int column) {
            return greatestBurial(row, column) >= stamps[cellAt(row, column)];
        }

        int visibleValue(int row, int column, int now) {
            int cell = cellAt(row, column);
            boolean isThere = stamps[cell] != NONE && endRank(ends[cell]) > now;
            return isThere && !isCovered(row, column) ? values[cell] : NONE;
        }

        private void takeTombstoneFrom(Table other, int place) {
            takeTombstone(place, other.burials[place], other.madeAts[place]);
        }

        /** Takes all that another table has for a cell. */
        void takeCellFrom(Table other, int row, int column) {
            int cell = cellAt(row, column);
            takeEntry(cell, other.values[cell], other.stamps[cell], other.ends[cell]);
            for (int cover = 0; cover < COVERS; cover++) {
                int place = coverPlace(row, column, cover);
                if (place != NONE) {
                    takeTombstoneFrom(other, place);
                }
            }
        }

        void takeRowFrom(Table other, int row) {
            for (int column = 0; column < COLUMNS; column++) {
                takeCellFrom(other, row, column);
            }
        }

        private boolean hasSameEntry(int cell, Table other) {
            return stamps[cell] == other.stamps[cell] && values[cell] == other.values[cell]
                    && ends[cell] == other.ends[cell];
        }

        private boolean hasSameTombstone(int place, Table other) {
            return burials[place] == other.burials[place] && madeAts[place] == other.madeAts[place];
        }

        /** Whether both tables tell the same for a cell. */
        boolean hasSameFor(int row, int column, Table other) {
            boolean isSame = hasSameEntry(cellAt(row, column), other);
            for (int cover = 0; cover < COVERS; cover++) {
                int place = coverPlace(row, column, cover);
                isSame = isSame && (place == NONE || hasSameTombstone(place, other));
            }
            return isSame;
        }

        boolean hasSameAs(Table other) {
            boolean isSame = true;
            for (int cell = 0; cell < CELLS; cell++) {
                isSame = isSame && hasSameEntry(cell, other);
            }
            for (int place = 0; place < PLACES; place++) {
                isSame = isSame && hasSameTombstone(place, other);
            }
            return isSame;
        }

        // What is dropped is put back as it was at first: what has the same must look the same.
        private void dropEntry(int cell) {
            putEntry(cell, 0, NONE, 0);
        }

        int dropCovered() {
            int dropped = 0;
            for (int row = 0; row < ROWS; row++) {
                for (int column = 0; column < COLUMNS; column++) {
                    int cell = cellAt(row, column);
                    if (stamps[cell] != NONE && isCovered(row, column)) {
                        dropEntry(cell);
                        dropped++;
                    }
                }
            }
            return dropped;
        }

        int dropTombstonesMadeBy(int latest) {
            int dropped = 0;
            for (int place = 0; place < PLACES; place++) {
                if (burials[place] != NONE && madeAts[place] <= latest) {
                    putTombstone(place, NONE, 0);
                    dropped++;
                }
            }
            return dropped;
        }

        int dropEntriesEndedBy(int latest) {
            int dropped = 0;
            for (int cell = 0; cell < CELLS; cell++) {
                if (stamps[cell] != NONE && endRank(ends[cell]) <= latest) {
                    dropEntry(cell);
                    dropped++;
                }
            }
            return dropped;
        }

        int countEntries() {
            int count = 0;
            for (int cell = 0; cell < CELLS; cell++) {
                if (stamps[cell] != NONE) {
                    count++;
                }
            }
            return count;
        }

        private static int firstPlace(int reach) {
            switch (reach) {
                case CELL:
                    return 0;
                case COLUMN:
                    return FIRST_COLUMN;
                case ROW:
                    return FIRST_ROW;
                case RANGE:
                    return FIRST_RANGE;
                default:
                    return PLACES;
            }
        }

        int countTombstones(int reach) {
            int first = firstPlace(reach);
            int end = firstPlace(reach + 1);
            int count = 0;
            for (int place = first; place < end; place++) {
                if (burials[place] != NONE) {
                    count++;
                }
            }
            return count;
        }

        int rowSum(int row) {
            int sum = tombstonePart(FIRST_ROW + row, 7);
            for (int column = 0; column < COLUMNS; column++) {
                int cell = cellAt(row, column);
                sum += entryPart(cell, column);
                sum += tombstonePart(cell, 3 + column);
                sum += tombstonePart(FIRST_COLUMN + column, 5 + column);
            }
            for (int range = 0; range < MOST_RANGES; range++) {
                if (ranges.has(range, row)) {
                    sum += tombstonePart(FIRST_RANGE + range, 11 + ranges.partOfSum(range));
                }
            }
            return sum % MODULUS;
        }

        private int entryPart(int cell, int column) {
            if (stamps[cell] == NONE) {
                return 0;
            }
            int end = ends[cell] == NEVER ? NEVER_IN_SUMS : ends[cell];
            return 31 * stamps[cell] + 7 * values[cell] + end + column + 1;
        }

        private int tombstonePart(int place, int reachPart) {
            return burials[place] == NONE ? 0 : 13 * burials[place] + 5 * madeAts[place] + reachPart;
        }
    }

    /** Compares two tables by the sums of their nodes; it is made once and used again. */
    private static final class Comparison {
        private final int[] sums = new int[NODES];
        private final int[] otherSums = new int[NODES];
        private final boolean[] differs = new boolean[NODES];

        /** Makes the sums of a table's nodes; what was made before is lost. */
        private static void makeSums(Table table, int[] made) {
            for (int row = 0; row < ROWS; row++) {
                made[ROWS + row] = table.rowSum(row);
            }
            for (int node = ROWS - 1; node >= 1; node--) {
                made[node] = (made[2 * node] + made[2 * node + 1]) % MODULUS;
            }
        }

        int nodeSum(Table table, int node) {
            makeSums(table, sums);
            return sums[node];
        }

        /** Answers how many nodes are compared. */
        int compareNodes(Table one, Table two) {
            makeSums(one, sums);
            makeSums(two, otherSums);
            int count = 0;
            for (int node = 1; node < NODES; node++) {
                boolean isReached = node == 1 || differs[node / 2];
                differs[node] = isReached && sums[node] != otherSums[node];
                if (isReached) {
                    count++;
                }
            }
            return count;
        }

        /** The rows that differed when two tables were compared last, as a set. */
        int unlikeRows() {
            int rows = 0;
            for (int row = 0; row < ROWS; row++) {
                if (differs[ROWS + row]) {
                    rows |= 1 << row;
                }
            }
            return rows;
        }
    }
}
