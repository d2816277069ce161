/** What can be seen of an object, in some 240 calls, so that two objects can be compared in one text. */
final class Snapshot {
    private Snapshot() {
    }

    static String of(WideCell x) {
        StringBuilder text = new StringBuilder();
        text.append("time ").append(x.time()).append(" repairs ").append(x.repairs());
        for (int copy = 0; copy < 3; copy++) {
            text.append("\ncopy ").append(copy).append(x.isUp(copy) ? " up" : " down");
            text.append(" hints ").append(x.hints(copy)).append(" entries ").append(x.entries(copy));
            text.append(" tombstones");
            for (int reach = WideCell.CELL; reach <= WideCell.RANGE; reach++) {
                text.append(' ').append(x.tombstones(copy, reach));
            }
            text.append(" sums");
            for (int row = 0; row < 16; row++) {
                text.append(' ').append(x.sumOf(copy, 4, row));
            }
            text.append(" column 1");
            for (int row = 0; row < 16; row++) {
                text.append(' ').append(x.valueAt(copy, row, 1));
            }
        }
        text.append("\nideal");
        for (int row = 0; row < 16; row++) {
            for (int column = 0; column < 4; column++) {
                text.append(' ').append(x.ideal(row, column));
            }
        }
        return text.append("\ngrace ").append(x.setGrace(10)).toString();
    }
}
