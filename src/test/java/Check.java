/** Counts what the tests find; a test program ends with Check.end, which exits with 1 if a check failed. */
final class Check {
    private static int passed = 0;
    private static int failed = 0;
    private static String subject = "";

    private Check() {
    }

    /** What the checks that follow are about; it stands ahead of each failure. */
    static void about(String what) {
        subject = what;
    }

    static void same(String what, Object want, Object got) {
        if (want.equals(got)) {
            passed++;
        } else {
            failed++;
            System.out.println("FAILED " + subject + what + ": due is " + want + ", answered is " + got);
        }
    }

    static void answers(String what, int want, int got) {
        same(what, Integer.valueOf(want), Integer.valueOf(got));
    }

    static void holds(String what, boolean got) {
        same(what, Boolean.TRUE, Boolean.valueOf(got));
    }

    static void fails(String what, boolean got) {
        same(what, Boolean.FALSE, Boolean.valueOf(got));
    }

    static void noIndex(String what, Runnable call) {
        same(what, "IndexOutOfBoundsException", outcomeOf(call));
    }

    static void noArgument(String what, Runnable call) {
        same(what, "IllegalArgumentException", outcomeOf(call));
    }

    static void noState(String what, Runnable call) {
        same(what, "IllegalStateException", outcomeOf(call));
    }

    /** The exact name counts: what the machine throws is often a subclass of what is due. */
    static String outcomeOf(Runnable call) {
        try {
            call.run();
            return "nothing thrown";
        } catch (RuntimeException e) {
            return e.getClass().getSimpleName();
        }
    }

    static void end(String name) {
        System.out.println(name + ": " + passed + " passed, " + failed + " failed");
        if (failed > 0 || passed == 0) {
            System.exit(1);
        }
    }
}
