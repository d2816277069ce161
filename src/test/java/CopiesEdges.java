/** The promises 7 to 10 and 13: copies that go down and come up, time, grace and cleaning. */
final class CopiesEdges {
    private static final String SET_UP = "Promise 7";
    private static final String LOSE_HINTS = "Promise 8";
    private static final String PASS = "Promise 9";
    private static final String SET_GRACE = "Promise 10";
    private static final String CLEAN = "Promise 13";

    private CopiesEdges() {
    }

    // ---- setUp

    static void setUpLetsGoDownOrComeUp() {
        Doc.says(SET_UP, "Lets a copy go down or come up.");
        WideCell x = new WideCell();
        x.write(2, 0, 0, 9, 9, 0);
        x.setUp(1, false);
        Check.fails("down", x.isUp(1));
        Check.answers("what it had it keeps", 9, x.valueAt(1, 0, 0));
        x.setUp(1, false);
        Check.fails("down, though it was", x.isUp(1));
        x.setUp(1, true);
        Check.holds("up", x.isUp(1));
        x.setUp(1, true);
        Check.holds("up, though it was", x.isUp(1));
        Check.answers("and it still has it", 9, x.valueAt(1, 0, 0));
    }

    static void setUpCopy() {
        Doc.says(SET_UP, "`copy`: 0 to 2");
        for (int copy = 0; copy <= 2; copy++) {
            WideCell x = new WideCell();
            x.setUp(copy, false);
            for (int asked = 0; asked <= 2; asked++) {
                Check.same("asked is " + asked + ", down is " + copy, asked != copy, x.isUp(asked));
            }
        }
        for (int copy : Refused.beside(0, 2)) {
            Refused.index("up, copy " + copy, x -> x.setUp(copy, true));
            Refused.index("down, copy " + copy, x -> x.setUp(copy, false));
        }
    }

    static void setUpIsUp() {
        Doc.says(SET_UP, "`isUp`: whether it is up from now on");
        WideCell x = new WideCell();
        x.setUp(0, false);
        Check.answers("down from now on", 2, x.write(7, 0, 0, 1, 1, 0));
        Check.noState("not to be cleaned", () -> x.clean(0));
        Check.noState("not to be read", () -> x.read(0, 1, 0, 0));
        x.setUp(0, true);
        Check.answers("up from now on", 3, x.write(7, 0, 0, 1, 1, 0));
        Check.answers("to be cleaned", 0, x.clean(0));
        Check.answers("to be read", 1, x.read(0, 1, 0, 0));
    }

    static void setUpReturns() {
        Doc.says(SET_UP, "Returns how many hints it takes by that.");
        WideCell x = new WideCell();
        Check.answers("up that was up", 0, x.setUp(2, true));
        for (int made = 0; made <= 11; made++) {
            Check.answers("down", 0, x.setUp(2, false));
            for (int row = 0; row < made; row++) {
                x.deleteRow(4, row, made);
            }
            Check.answers("down again, with " + made, 0, x.setUp(2, false));
            Check.answers("up, with " + made, Math.min(made, 10), x.setUp(2, true));
            Check.answers("up again, with " + made, 0, x.setUp(2, true));
        }
        x.setUp(2, false);
        x.deleteRow(4, 0, 0);
        x.deleteRow(4, 0, 0);
        Check.answers("hints that change nothing", 2, x.setUp(2, true));
    }

    static void setUpThrows() {
        Doc.says(SET_UP, "Throws `IndexOutOfBoundsException` if there is no such copy");
        for (int copy : Refused.farFrom(0, 2)) {
            Refused.index("up, copy " + copy, x -> x.setUp(copy, true));
            Refused.index("down, copy " + copy, x -> x.setUp(copy, false));
        }
    }

    // ---- loseHints

    static void loseHintsLoses() {
        Doc.says(LOSE_HINTS, "Loses the hints for a copy.");
        WideCell x = Start.ALL_DOWN.make();
        Check.answers("of copy 1", 1, x.loseHints(1));
        Check.answers("none is left", 0, x.hints(1));
        Check.answers("copy 0 keeps its own", 1, x.hints(0));
        Check.answers("copy 2 keeps its own", 1, x.hints(2));
        Check.fails("it is still down", x.isUp(1));
        Check.answers("none is taken", 0, x.setUp(1, true));
        Check.answers("what it had it keeps", 5, x.stampAt(1, 3, 1));
        Check.answers("it has not got the hint", WideCell.NONE, x.stampAt(1, 0, 0));
        Check.answers("the ideal copy has it", 1, x.ideal(0, 0));
    }

    static void loseHintsCopy() {
        Doc.says(LOSE_HINTS, "`copy`: 0 to 2");
        for (int copy = 0; copy <= 2; copy++) {
            WideCell x = Start.ALL_DOWN.make();
            Check.answers("copy " + copy, 1, x.loseHints(copy));
            for (int asked = 0; asked <= 2; asked++) {
                Check.answers("asked is " + asked + ", lost by " + copy, asked == copy ? 0 : 1, x.hints(asked));
            }
        }
        for (int copy : Refused.beside(0, 2)) {
            Refused.index("copy " + copy, x -> x.loseHints(copy));
            Refused.index(Start.ALL_DOWN, "copy " + copy, x -> x.loseHints(copy));
        }
    }

    static void loseHintsReturns() {
        Doc.says(LOSE_HINTS, "Returns how many there were.");
        WideCell x = new WideCell();
        Check.answers("up", 0, x.loseHints(1));
        x.setUp(1, false);
        for (int made = 0; made <= 12; made++) {
            for (int row = 0; row < made; row++) {
                x.write(2, row, 0, made, made, 0);
            }
            Check.answers("made " + made, Math.min(made, 10), x.loseHints(1));
            Check.answers("again, made " + made, 0, x.loseHints(1));
        }
    }

    static void loseHintsThrows() {
        Doc.says(LOSE_HINTS, "Throws `IndexOutOfBoundsException` if there is no such copy");
        for (int copy : Refused.farFrom(0, 2)) {
            Refused.index("copy " + copy, x -> x.loseHints(copy));
            Refused.index(Start.ALL_DOWN, "copy " + copy, x -> x.loseHints(copy));
        }
    }

    // ---- pass

    static void passTicks() {
        Doc.says(PASS, "`ticks`: 1 to 100");
        for (int ticks : new int[] {1, 2, 99, 100}) {
            WideCell x = new WideCell();
            Check.answers("ticks " + ticks, ticks, x.pass(ticks));
            Check.answers("ticks " + ticks + " again", 2 * ticks, x.pass(ticks));
            Check.answers("time after ticks " + ticks, 2 * ticks, x.time());
        }
        for (int ticks : Refused.beside(1, 100)) {
            Refused.argument("ticks " + ticks, x -> x.pass(ticks));
        }
    }

    static void passReturns() {
        Doc.says(PASS, "Returns the time then.");
        WideCell x = new WideCell();
        for (int i = 1; i <= 100; i++) {
            Check.answers("pass " + i, 100 * i, x.pass(100));
        }
        Check.answers("the last time", 10000, x.time());
    }

    static void passThrowsForTicks() {
        Doc.says(PASS, "Throws `IllegalArgumentException` if ticks is out of range");
        for (int ticks : Refused.farFrom(1, 100)) {
            Refused.argument("ticks " + ticks, x -> x.pass(ticks));
            Refused.argument(Start.AT_THE_LAST_TIME, "ticks " + ticks, x -> x.pass(ticks));
        }
        Refused.argument(Start.LATE, "ticks 101", x -> x.pass(101));
        Refused.argument(Start.LATE, "ticks 0", x -> x.pass(0));
        Refused.argument(Start.LATE, "ticks that would pass the greatest number", x -> x.pass(2147483647 - 9949));
    }

    static void passThrowsAbove10000() {
        Doc.says(PASS, "Throws `IllegalStateException` if the time would be above 10000");
        Refused.state(Start.LATE, "9950 and 51", x -> x.pass(51));
        Refused.state(Start.LATE, "9950 and 100", x -> x.pass(100));
        Refused.state(Start.AT_THE_LAST_TIME, "10000 and 1", x -> x.pass(1));
        Refused.state(Start.AT_THE_LAST_TIME, "10000 and 100", x -> x.pass(100));
        Check.answers("9950 and 50", 10000, Start.LATE.make().pass(50));
        Check.answers("9950 and 49", 9999, Start.LATE.make().pass(49));
        WideCell x = Start.LATE.make();
        Check.noState("9950 and 51", () -> x.pass(51));
        Check.answers("then 49", 9999, x.pass(49));
        Check.noState("9999 and 2", () -> x.pass(2));
        Check.answers("then 1", 10000, x.pass(1));
    }

    // ---- setGrace

    static void setGraceTicks() {
        Doc.says(SET_GRACE, "`ticks`: 0 to 1000");
        for (int grace : new int[] {0, 1, 999, 1000}) {
            WideCell x = new WideCell();
            x.setGrace(grace);
            x.deleteRow(1, 0, 0);
            if (grace > 0) {
                Start.passTo(x, grace - 1);
                Check.answers("grace " + grace + ", just before", 0, x.clean(0));
                x.pass(1);
            }
            Check.answers("grace " + grace, 1, x.clean(0));
        }
        WideCell later = new WideCell();
        later.deleteRow(1, 0, 0);
        later.pass(20);
        later.setGrace(21);
        Check.answers("set later, 21", 0, later.clean(0));
        later.setGrace(20);
        Check.answers("set later, 20", 1, later.clean(0));
        for (int grace : Refused.beside(0, 1000)) {
            Refused.argument("grace " + grace, x -> x.setGrace(grace));
        }
    }

    static void setGraceReturns() {
        Doc.says(SET_GRACE, "Returns the grace before.");
        WideCell x = new WideCell();
        int before = 10;
        for (int grace : new int[] {0, 1000, 1, 999, 999, 10}) {
            Check.answers("before " + grace, before, x.setGrace(grace));
            before = grace;
        }
    }

    static void setGraceThrows() {
        Doc.says(SET_GRACE, "Throws `IllegalArgumentException` if ticks is out of range");
        for (int grace : Refused.farFrom(0, 1000)) {
            Refused.argument("grace " + grace, x -> x.setGrace(grace));
        }
    }

    // ---- clean

    static void cleanCleans() {
        Doc.says(CLEAN, "Cleans a copy.");
        WideCell x = Start.BUSY.make();
        int other = x.sumOf(1, 0, 0);
        int down = x.sumOf(2, 0, 0);
        Check.holds("something is dropped", x.clean(0) > 0);
        Check.answers("nothing more", 0, x.clean(0));
        Check.answers("another copy is as it was", other, x.sumOf(1, 0, 0));
        Check.answers("one that is down is as it was", down, x.sumOf(2, 0, 0));
        Check.answers("an empty copy", 0, new WideCell().clean(0));
    }

    static void cleanCopy() {
        Doc.says(CLEAN, "`copy`: 0 to 2");
        for (int copy = 0; copy <= 2; copy++) {
            WideCell x = new WideCell();
            x.setGrace(0);
            x.deleteRow(7, 0, 0);
            Check.answers("copy " + copy, 1, x.clean(copy));
            for (int asked = 0; asked <= 2; asked++) {
                int want = asked == copy ? 0 : 1;
                Check.answers("asked is " + asked + ", cleaned " + copy, want, x.tombstones(asked, WideCell.ROW));
            }
        }
        for (int copy : Refused.beside(0, 2)) {
            Refused.index("copy " + copy, x -> x.clean(copy));
        }
    }

    static void cleanReturns() {
        Doc.says(CLEAN, "Returns how many entries and tombstones are dropped.");
        WideCell x = new WideCell();
        for (int cell = 0; cell < 64; cell++) {
            x.write(1, cell / 4, cell % 4, 0, cell / 4, 0);
            x.deleteCell(1, cell / 4, cell % 4, cell / 4);
        }
        for (int row = 0; row < 16; row++) {
            x.deleteRow(1, row, 0);
        }
        for (int column = 0; column < 4; column++) {
            x.deleteColumn(1, column, 0);
        }
        for (int row = 0; row < 8; row++) {
            x.deleteRange(1, row, 15, 0);
        }
        x.setGrace(0);
        Check.answers("all that a copy can have", 64 + 64 + 16 + 4 + 8, x.clean(0));
        Check.answers("nothing is left", 0, x.clean(0));
        for (int cell = 0; cell < 64; cell++) {
            x.write(1, cell / 4, cell % 4, 0, 0, 1);
        }
        Check.answers("none has expired", 0, x.clean(0));
        x.pass(1);
        x.deleteRow(1, 0, 0);
        Check.answers("all have expired, and four are covered", 65, x.clean(0));
    }

    static void cleanThrowsForCopy() {
        Doc.says(CLEAN, "Throws `IndexOutOfBoundsException` if there is no such copy");
        for (int copy : Refused.farFrom(0, 2)) {
            Refused.index("copy " + copy, x -> x.clean(copy));
            Refused.index(Start.ALL_DOWN, "copy " + copy, x -> x.clean(copy));
        }
    }

    static void cleanThrowsIfDown() {
        Doc.says(CLEAN, "Throws `IllegalStateException` if it is down");
        Refused.state(Start.BUSY, "copy 2", x -> x.clean(2));
        for (int copy = 0; copy <= 2; copy++) {
            int down = copy;
            Refused.state(Start.ALL_DOWN, "copy " + copy, x -> x.clean(down));
            WideCell x = Start.ALL_DOWN.make();
            x.setUp(copy, true);
            Check.answers("up again, copy " + copy, copy == 1 ? 2 : copy == 2 ? 1 : 0, x.clean(copy));
        }
    }
}
