/** The calls of the face, each with the kinds of its arguments. */
enum Calls {
    WRITE("crxvsl"),
    DELETE_CELL("crxs"),
    DELETE_COLUMN("cxs"),
    DELETE_ROW("crs"),
    DELETE_RANGE("crrs"),
    SET_UP("kb"),
    LOSE_HINTS("k"),
    PASS("t"),
    SET_GRACE("g"),
    READ("kkrx"),
    MAKE_ALIKE("kk"),
    CLEAN("k"),
    TIME(""),
    IS_UP("k"),
    HINTS("k"),
    REPAIRS(""),
    VALUE_AT("krx"),
    STAMP_AT("krx"),
    BURIED_BY("krx"),
    TOMBSTONES("ka"),
    ENTRIES("k"),
    IDEAL("rx"),
    SUM_OF("kon"),
    COMPARED("kk"),
    UNLIKE("kk"),
    ARE_ALIKE("kk");

    /**
     * A letter for each argument: c a set of copies, k a copy, r a row, x a column, v a value, s a stamp, l a life,
     * b whether, t ticks, g a grace, a a reach, o a level, n a node.
     */
    final String kinds;

    Calls(String kinds) {
        this.kinds = kinds;
    }

    /** Arguments that are taken on most objects; two copies are 0 and 1, two rows are the same. */
    int[] usual() {
        int[] arguments = new int[kinds.length()];
        for (int i = 0; i < arguments.length; i++) {
            arguments[i] = usualOf(kinds.charAt(i));
        }
        if (kinds.startsWith("kk")) {
            arguments[1] = 1;
        }
        return arguments;
    }

    private static int usualOf(char kind) {
        switch (kind) {
            case 'c': return 7;
            case 'r': return 3;
            case 's': return 600;
            case 'o': return 4;
            case 'k': case 'l': return 0;
            default: return 1;
        }
    }

    /** A boolean counts 1 or 0. */
    int answer(WideCell x, int[] a) {
        switch (this) {
            case WRITE: return x.write(a[0], a[1], a[2], a[3], a[4], a[5]);
            case DELETE_CELL: return x.deleteCell(a[0], a[1], a[2], a[3]);
            case DELETE_COLUMN: return x.deleteColumn(a[0], a[1], a[2]);
            case DELETE_ROW: return x.deleteRow(a[0], a[1], a[2]);
            case DELETE_RANGE: return x.deleteRange(a[0], a[1], a[2], a[3]);
            case SET_UP: return x.setUp(a[0], a[1] == 1);
            case LOSE_HINTS: return x.loseHints(a[0]);
            case PASS: return x.pass(a[0]);
            case SET_GRACE: return x.setGrace(a[0]);
            case READ: return x.read(a[0], a[1], a[2], a[3]);
            case MAKE_ALIKE: return x.makeAlike(a[0], a[1]);
            case CLEAN: return x.clean(a[0]);
            case TIME: return x.time();
            case IS_UP: return x.isUp(a[0]) ? 1 : 0;
            case HINTS: return x.hints(a[0]);
            case REPAIRS: return x.repairs();
            case VALUE_AT: return x.valueAt(a[0], a[1], a[2]);
            case STAMP_AT: return x.stampAt(a[0], a[1], a[2]);
            case BURIED_BY: return x.buriedBy(a[0], a[1], a[2]);
            case TOMBSTONES: return x.tombstones(a[0], a[1]);
            case ENTRIES: return x.entries(a[0]);
            case IDEAL: return x.ideal(a[0], a[1]);
            case SUM_OF: return x.sumOf(a[0], a[1], a[2]);
            case COMPARED: return x.compared(a[0], a[1]);
            case UNLIKE: return x.unlike(a[0], a[1]);
            default: return x.areAlike(a[0], a[1]) ? 1 : 0;
        }
    }
}
