import java.util.Arrays;

/** Runs of 512 calls, the same at every time, with each answer and exception compared with the model's. */
public final class ModelTest {
    private static final int RUNS = 3000;
    private static final int CALLS = 512;
    // How often a call comes, in the order of Calls; those that write come more often than the rest.
    private static final int[] WEIGHTS = {
        30, 8, 4, 6, 6, 8, 1, 6, 2, 20, 3, 4, 1, 1, 2, 2, 10, 5, 6, 6, 4, 8, 12, 5, 5, 6,
    };
    private static final int[] FAR = {Integer.MIN_VALUE, -2, -1, 16, 1000, 1001, Integer.MAX_VALUE};

    private long seed;

    private ModelTest(long seed) {
        this.seed = seed;
    }

    public static void main(String[] args) {
        for (int run = 0; run < RUNS; run++) {
            new ModelTest(run).compare(run);
        }
        Check.end("ModelTest");
    }

    private void compare(int run) {
        WideCell x = new WideCell();
        Model model = new Model();
        // Few rows and stamps make calls meet; every third run uses all of them.
        boolean isWide = run % 3 == 0;
        StringBuilder history = new StringBuilder();
        for (int i = 0; i < CALLS; i++) {
            Calls call = anyCall();
            int[] arguments = anyArguments(call, isWide);
            String want = outcome(call, null, model, arguments);
            String got = outcome(call, x, null, arguments);
            history.append('\n').append(call).append(Arrays.toString(arguments)).append(" = ").append(got);
            if (!want.equals(got)) {
                Check.same("run " + run + history, want, got);
                return;
            }
        }
        Check.holds("run " + run, true);
    }

    private static String outcome(Calls call, WideCell x, Model model, int[] arguments) {
        try {
            return String.valueOf(x == null ? model.answer(call, arguments) : call.answer(x, arguments));
        } catch (RuntimeException e) {
            return e.getClass().getName();
        }
    }

    private Calls anyCall() {
        int total = Arrays.stream(WEIGHTS).sum();
        int left = below(total);
        for (Calls call : Calls.values()) {
            left -= WEIGHTS[call.ordinal()];
            if (left < 0) {
                return call;
            }
        }
        return Calls.TIME;
    }

    private int[] anyArguments(Calls call, boolean isWide) {
        int[] arguments = new int[call.kinds.length()];
        for (int i = 0; i < arguments.length; i++) {
            arguments[i] = anyOf(call.kinds.charAt(i), isWide);
            if (below(150) == 0) {
                arguments[i] = call.kinds.charAt(i) == 'b' ? 0 : FAR[below(FAR.length)];
            }
        }
        if (call == Calls.SUM_OF && below(20) > 0) {
            arguments[2] = below(1 << (arguments[1] & 7));
        }
        if (call == Calls.DELETE_RANGE && below(10) > 0) {
            arguments[2] = Math.max(arguments[1], arguments[2]);
        }
        return arguments;
    }

    private int anyOf(char kind, boolean isWide) {
        switch (kind) {
            case 'c': return below(8);
            case 'k': return below(3);
            case 'r': return isWide ? below(16) : below(2) * 12 + below(2);
            case 'x': return below(4);
            case 'v': return isWide ? below(1000) : below(3);
            case 's': return isWide ? below(1000) : below(6);
            case 'l': return below(3) == 0 ? 0 : below(isWide ? 1001 : 12);
            case 'b': return below(3) == 0 ? 0 : 1;
            case 't': return 1 + below(isWide ? 100 : 4);
            case 'g': return below(isWide ? 1001 : 12);
            case 'a': return below(4);
            case 'o': return below(5);
            default: return below(16);
        }
    }

    private int below(int bound) {
        seed = seed * 6364136223846793005L + 1442695040888963407L;
        return (int) ((seed >>> 33) % bound);
    }
}
