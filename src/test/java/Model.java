import java.util.ArrayList;
import java.util.List;

/**
 * The document once more, as plainly as it can be said and with nothing in common with WideCell.java:
 * lists of entries and tombstones, searched through. ModelTest compares the two.
 */
final class Model {
    private static final int NEVER = -1;

    private record Entry(int row, int column, int value, int stamp, int end) {
        boolean isBetterThan(Entry other) {
            if (stamp != other.stamp) {
                return stamp > other.stamp;
            }
            if (value != other.value) {
                return value > other.value;
            }
            return end != other.end && other.end != NEVER && (end == NEVER || end > other.end);
        }

        boolean hasExpired(int time) {
            return end != NEVER && end <= time;
        }
    }

    /** For a CELL a row and a column are told, for a COLUMN or a ROW it twice, for a RANGE both its ends. */
    private record Tombstone(int reach, int first, int last, int stamp, int madeAt) {
        boolean covers(int row, int column) {
            switch (reach) {
                case 0:
                    return first == row && last == column;
                case 1:
                    return first == column;
                case 2:
                    return first == row;
                default:
                    return first <= row && row <= last;
            }
        }

        boolean coversSomeOf(int row) {
            return covers(row, 0) || covers(row, 1) || covers(row, 2) || covers(row, 3);
        }

        boolean hasReachOf(Tombstone other) {
            return reach == other.reach && first == other.first && last == other.last;
        }

        boolean isBetterThan(Tombstone other) {
            return stamp > other.stamp || stamp == other.stamp && madeAt > other.madeAt;
        }
    }

    private static final class Side {
        final List<Entry> entries = new ArrayList<>();
        final List<Tombstone> tombstones = new ArrayList<>();
        final List<Object> hints = new ArrayList<>();
        boolean isUp = true;

        void take(Object change) {
            if (change instanceof Entry entry) {
                Entry old = entryOf(entry.row, entry.column);
                if (old == null || entry.isBetterThan(old)) {
                    entries.remove(old);
                    entries.add(entry);
                }
            } else if (change instanceof Tombstone tombstone) {
                if (tombstones.stream().noneMatch(t -> t.hasReachOf(tombstone) && !tombstone.isBetterThan(t))) {
                    tombstones.removeIf(t -> t.hasReachOf(tombstone));
                    tombstones.add(tombstone);
                }
            }
        }

        Entry entryOf(int row, int column) {
            for (Entry entry : entries) {
                if (entry.row == row && entry.column == column) {
                    return entry;
                }
            }
            return null;
        }

        boolean isCovered(Entry entry) {
            return buriedBy(entry.row, entry.column) >= entry.stamp;
        }

        int buriedBy(int row, int column) {
            return tombstones.stream().filter(t -> t.covers(row, column)).mapToInt(t -> t.stamp).max().orElse(-1);
        }

        int value(int row, int column, int time) {
            Entry entry = entryOf(row, column);
            return entry == null || isCovered(entry) || entry.hasExpired(time) ? -1 : entry.value;
        }

        /** All that there is for a cell, or for a row if the column is -1. */
        List<Object> allFor(int row, int column) {
            List<Object> all = new ArrayList<>();
            for (Entry entry : entries) {
                if (entry.row == row && (column == -1 || entry.column == column)) {
                    all.add(entry);
                }
            }
            for (Tombstone tombstone : tombstones) {
                if (column == -1 ? tombstone.coversSomeOf(row) : tombstone.covers(row, column)) {
                    all.add(tombstone);
                }
            }
            return all;
        }

        int sum(int level, int node) {
            int rows = 16 >> level;
            long sum = 0;
            for (int row = rows * node; row < rows * node + rows; row++) {
                for (Object one : allFor(row, -1)) {
                    sum += number(one);
                }
            }
            return (int) (sum % 65521);
        }

        private static int number(Object one) {
            if (one instanceof Entry e) {
                return 31 * e.stamp + 7 * e.value + (e.end == NEVER ? 20000 : e.end) + e.column + 1;
            }
            Tombstone t = (Tombstone) one;
            int[] ofReach = {3 + t.last, 5 + t.first, 7, 11 + 17 * t.first + 19 * t.last};
            return 13 * t.stamp + 5 * t.madeAt + ofReach[t.reach];
        }
    }

    private final Side[] sides = {new Side(), new Side(), new Side()};
    private final Side idealSide = new Side();
    private final List<Integer> ranges = new ArrayList<>();
    private int time = 0;
    private int grace = 10;
    private int repairs = 0;

    /** The call with this number in Calls, with its arguments. */
    int answer(Calls call, int[] a) {
        switch (call) {
            case WRITE:
                cell(a[1], a[2]);
                argument(in(a[0], 0, 7) && in(a[3], 0, 999) && in(a[4], 0, 999) && in(a[5], 0, 1000));
                return send(a[0], new Entry(a[1], a[2], a[3], a[4], a[5] == 0 ? NEVER : time + a[5]));
            case DELETE_CELL:
                cell(a[1], a[2]);
                return delete(a[0], 0, a[1], a[2], a[3]);
            case DELETE_COLUMN:
                cell(0, a[1]);
                return delete(a[0], 1, a[1], a[1], a[2]);
            case DELETE_ROW:
                cell(a[1], 0);
                return delete(a[0], 2, a[1], a[1], a[2]);
            case DELETE_RANGE:
                return deleteRange(a[0], a[1], a[2], a[3]);
            case SET_UP:
                return setUp(side(a[0]), a[1] == 1);
            case LOSE_HINTS:
                int lost = side(a[0]).hints.size();
                side(a[0]).hints.clear();
                return lost;
            case PASS:
                argument(in(a[0], 1, 100));
                state(time + a[0] <= 10000);
                time += a[0];
                return time;
            case SET_GRACE:
                argument(in(a[0], 0, 1000));
                int before = grace;
                grace = a[0];
                return before;
            case READ:
                return read(a[0], a[1], a[2], a[3]);
            case MAKE_ALIKE:
                return makeAlike(a[0], a[1]);
            case CLEAN:
                return clean(side(a[0]));
            default:
                return tell(call, a);
        }
    }

    private int tell(Calls call, int[] a) {
        switch (call) {
            case TIME:
                return time;
            case IS_UP:
                return side(a[0]).isUp ? 1 : 0;
            case HINTS:
                return side(a[0]).hints.size();
            case REPAIRS:
                return repairs;
            case VALUE_AT:
                cell(a[1], a[2]);
                return side(a[0]).value(a[1], a[2], time);
            case STAMP_AT:
                cell(a[1], a[2]);
                Entry entry = side(a[0]).entryOf(a[1], a[2]);
                return entry == null ? -1 : entry.stamp;
            case BURIED_BY:
                cell(a[1], a[2]);
                return side(a[0]).buriedBy(a[1], a[2]);
            case TOMBSTONES:
                side(a[0]);
                argument(in(a[1], 0, 3));
                return (int) side(a[0]).tombstones.stream().filter(t -> t.reach == a[1]).count();
            case ENTRIES:
                return side(a[0]).entries.size();
            case IDEAL:
                cell(a[0], a[1]);
                return idealSide.value(a[0], a[1], time);
            case SUM_OF:
                index(in(a[1], 0, 4) && in(a[2], 0, (1 << (a[1] & 7)) - 1));
                return side(a[0]).sum(a[1], a[2]);
            case COMPARED:
                return compare(side(a[0]), side(a[1]), 0, 0)[0];
            case UNLIKE:
                return compare(side(a[0]), side(a[1]), 0, 0)[1];
            default:
                return areAlike(side(a[0]), side(a[1])) ? 1 : 0;
        }
    }

    private int delete(int copies, int reach, int first, int last, int stamp) {
        argument(in(copies, 0, 7) && in(stamp, 0, 999));
        return send(copies, new Tombstone(reach, first, last, stamp, time));
    }

    private int deleteRange(int copies, int from, int to, int stamp) {
        cell(from, 0);
        cell(to, 0);
        argument(in(copies, 0, 7) && in(stamp, 0, 999) && from <= to);
        Integer range = 100 * from + to;
        state(ranges.contains(range) || ranges.size() < 8);
        if (!ranges.contains(range)) {
            ranges.add(range);
        }
        return delete(copies, 3, from, to, stamp);
    }

    private int send(int copies, Object change) {
        int up = 0;
        idealSide.take(change);
        for (int copy = 0; copy < 3; copy++) {
            Side side = sides[copy];
            if ((copies & 1 << copy) == 0) {
                continue;
            }
            if (side.isUp) {
                side.take(change);
                up++;
            } else if (side.hints.size() < 10) {
                side.hints.add(change);
            }
        }
        return up;
    }

    private int setUp(Side side, boolean isUp) {
        side.isUp = isUp;
        if (!isUp) {
            return 0;
        }
        List<Object> hints = new ArrayList<>(side.hints);
        side.hints.clear();
        hints.forEach(side::take);
        return hints.size();
    }

    private int read(int copy, int other, int row, int column) {
        Side one = side(copy);
        Side two = side(other);
        cell(row, column);
        argument(copy != other);
        state(one.isUp && two.isUp);
        List<Object> ofOne = one.allFor(row, column);
        List<Object> ofTwo = two.allFor(row, column);
        if (!(ofOne.containsAll(ofTwo) && ofTwo.containsAll(ofOne))) {
            ofOne.forEach(two::take);
            ofTwo.forEach(one::take);
            repairs++;
        }
        return two.value(row, column, time);
    }

    private int makeAlike(int copy, int other) {
        Side one = side(copy);
        Side two = side(other);
        argument(copy != other);
        state(one.isUp && two.isUp);
        int unlike = compare(one, two, 0, 0)[1];
        for (int row = 0; row < 16; row++) {
            if ((unlike & 1 << row) != 0) {
                List<Object> ofOne = one.allFor(row, -1);
                List<Object> ofTwo = two.allFor(row, -1);
                ofOne.forEach(two::take);
                ofTwo.forEach(one::take);
            }
        }
        return Integer.bitCount(unlike);
    }

    private int clean(Side side) {
        state(side.isUp);
        int before = side.entries.size() + side.tombstones.size();
        side.entries.removeIf(side::isCovered);
        side.tombstones.removeIf(t -> time - t.madeAt >= grace);
        side.entries.removeIf(e -> e.end != NEVER && time - e.end >= grace);
        return before - side.entries.size() - side.tombstones.size();
    }

    /** How many nodes are compared, and the rows found, in the node and below it. */
    private static int[] compare(Side one, Side two, int level, int node) {
        if (one.sum(level, node) == two.sum(level, node)) {
            return new int[] {1, 0};
        }
        if (level == 4) {
            return new int[] {1, 1 << node};
        }
        int[] left = compare(one, two, level + 1, 2 * node);
        int[] right = compare(one, two, level + 1, 2 * node + 1);
        return new int[] {1 + left[0] + right[0], left[1] | right[1]};
    }

    private static boolean areAlike(Side one, Side two) {
        return one.entries.containsAll(two.entries) && two.entries.containsAll(one.entries)
                && one.tombstones.containsAll(two.tombstones) && two.tombstones.containsAll(one.tombstones);
    }

    private static boolean in(int number, int least, int most) {
        return number >= least && number <= most;
    }

    private Side side(int copy) {
        index(in(copy, 0, 2));
        return sides[copy];
    }

    private static void cell(int row, int column) {
        index(in(row, 0, 15) && in(column, 0, 3));
    }

    private static void index(boolean isThere) {
        if (!isThere) {
            throw new IndexOutOfBoundsException();
        }
    }

    private static void argument(boolean isInRange) {
        if (!isInRange) {
            throw new IllegalArgumentException();
        }
    }

    private static void state(boolean isAllowed) {
        if (!isAllowed) {
            throw new IllegalStateException();
        }
    }
}
