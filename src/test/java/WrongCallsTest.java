import java.util.Arrays;
import java.util.List;

/** Every call with every mixture of arguments at and beyond the edges: only exceptions that are named come. */
public final class WrongCallsTest {
    private static final int[] EDGES = {
        Integer.MIN_VALUE, Integer.MIN_VALUE + 1, -1, 0, 3, 8, 15, 16, 999, 1000, Integer.MAX_VALUE,
    };
    private static final List<String> NAMED = List.of("java.lang.IndexOutOfBoundsException",
            "java.lang.IllegalArgumentException", "java.lang.IllegalStateException");

    private int made = 0;
    private WideCell x;
    private Model model;

    private WrongCallsTest() {
        startAnew();
    }

    public static void main(String[] args) {
        WrongCallsTest test = new WrongCallsTest();
        for (Calls call : Calls.values()) {
            test.tryAll(call, new int[call.kinds.length()], 0);
        }
        Check.end("WrongCallsTest");
    }

    private void startAnew() {
        x = new WideCell();
        model = new Model();
        made = 0;
    }

    private void tryAll(Calls call, int[] arguments, int next) {
        if (next == arguments.length) {
            tryOne(call, arguments);
            return;
        }
        for (int edge : EDGES) {
            arguments[next] = edge;
            tryAll(call, arguments, next + 1);
        }
    }

    private void tryOne(Calls call, int[] arguments) {
        if (made == 512) {
            startAnew();
        }
        made++;
        String want = outcome(call, arguments, false);
        String got = outcome(call, arguments, true);
        if (!want.equals(got)) {
            Check.same(call + Arrays.toString(arguments), want, got);
        } else if (want.startsWith("java")) {
            Check.holds(call + " throws " + got, NAMED.contains(got));
        }
    }

    private String outcome(Calls call, int[] arguments, boolean isOfTheClass) {
        try {
            return String.valueOf(isOfTheClass ? call.answer(x, arguments) : model.answer(call, arguments));
        } catch (RuntimeException e) {
            return e.getClass().getName();
        }
    }
}
