import java.util.List;
import java.util.stream.IntStream;

/** Checks that a call is refused: that it throws just the exception that is due, and that it changes nothing. */
final class Refused {
    interface Call {
        void on(WideCell x);
    }

    private Refused() {
    }

    static void index(String what, Call call) {
        from(Start.NEW, "IndexOutOfBoundsException", what, call);
        from(Start.BUSY, "IndexOutOfBoundsException", what, call);
    }

    static void argument(String what, Call call) {
        from(Start.NEW, "IllegalArgumentException", what, call);
        from(Start.BUSY, "IllegalArgumentException", what, call);
    }

    static void index(Start start, String what, Call call) {
        from(start, "IndexOutOfBoundsException", what, call);
    }

    static void argument(Start start, String what, Call call) {
        from(start, "IllegalArgumentException", what, call);
    }

    static void state(Start start, String what, Call call) {
        from(start, "IllegalStateException", what, call);
    }

    private static void from(Start start, String exception, String what, Call call) {
        WideCell refusing = start.make();
        Check.same(start + ", " + what, exception, Check.outcomeOf(() -> call.on(refusing)));
        List<String> seen = start.seen();
        for (int i = 0; i < seen.size(); i++) {
            WideCell x = start.make();
            Check.outcomeOf(() -> call.on(x));
            Check.same(start + ", " + what + ", and nothing is changed", seen.get(i), Snapshot.ALL.get(i).ask(x));
        }
    }

    /** The nearest numbers on either side of a range. */
    static int[] beside(int least, int most) {
        return new int[] {least - 1, most + 1};
    }

    /** Numbers far out of a range, among them those that would come into it if they were cut or multiplied. */
    static int[] farFrom(int least, int most) {
        return IntStream.of(Integer.MIN_VALUE, Integer.MAX_VALUE, Integer.MIN_VALUE + most, 1 << 30, (1 << 30) + most,
                        least - 256, least + 256, least + 65536, least - 65536, least + 65521, least - most - 1)
                .filter(number -> number < least || number > most).toArray();
    }
}
