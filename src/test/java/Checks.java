import java.util.function.IntConsumer;

/** Counts what holds and what does not, and tells the latter. */
final class Checks {
    private static final String NOTHING = "nothing";

    private static String label = "";
    private static int passed = 0;
    private static int failed = 0;

    private Checks() {
    }

    /** Runs one group of checks; what it throws unexpectedly is a failed check. */
    static void group(String name, Runnable checks) {
        label = name;
        try {
            checks.run();
        } catch (RuntimeException e) {
            tell(false, "threw " + e);
        }
    }

    static void tell(boolean holds, String what) {
        if (holds) {
            passed++;
            return;
        }
        failed++;
        StackTraceElement[] trace = new Throwable().getStackTrace();
        String place = "";
        for (StackTraceElement step : trace) {
            if (!step.getClassName().equals("Checks")) {
                place = " at " + step.getFileName() + ":" + step.getLineNumber();
                break;
            }
        }
        System.out.println(label + place + ": " + what);
    }

    static void is(long due, long got) {
        tell(due == got, "answered " + got + ", due is " + due);
    }

    static void isReal(double due, double got) {
        tell(Double.compare(due, got) == 0, "answered " + got + ", due is " + due);
    }

    static void same(String due, String got, String what) {
        tell(due.equals(got), what + ": there is " + got + ", due is " + due);
    }

    /** The call takes the first and the last number, and throws for all that are tried outside of them. */
    static void range(int first, int last, Class<? extends RuntimeException> kind, IntConsumer call) {
        for (int taken : new int[] {first, last}) {
            String got = thrownBy(() -> call.accept(taken));
            tell(got.equals(NOTHING), "for " + taken + " threw " + got);
        }
        int[] wrong = {first - 1, last + 1, first - 256, last + 256, -last - 2, Integer.MIN_VALUE, Integer.MAX_VALUE};
        for (int refused : wrong) {
            String got = thrownBy(() -> call.accept(refused));
            tell(got.equals(kind.getSimpleName()), "for " + refused + " threw " + got);
        }
    }

    static void indexRange(int first, int last, IntConsumer call) {
        range(first, last, IndexOutOfBoundsException.class, call);
    }

    static void argumentRange(int first, int last, IntConsumer call) {
        range(first, last, IllegalArgumentException.class, call);
    }

    static String thrownBy(Runnable call) {
        try {
            call.run();
            return NOTHING;
        } catch (RuntimeException e) {
            return e.getClass().getSimpleName();
        }
    }

    static void fails(Class<? extends RuntimeException> kind, Runnable call) {
        String got = thrownBy(call);
        tell(got.equals(kind.getSimpleName()), "threw " + got + ", due is " + kind.getSimpleName());
    }

    static void noIndex(Runnable call) {
        fails(IndexOutOfBoundsException.class, call);
    }

    static void noArgument(Runnable call) {
        fails(IllegalArgumentException.class, call);
    }

    static void noState(Runnable call) {
        fails(IllegalStateException.class, call);
    }

    static void noElement(Runnable call) {
        fails(java.util.NoSuchElementException.class, call);
    }

    static void refused(TheatreSeasons season, int reason, int detail, Runnable call) {
        fails(UnsupportedOperationException.class, call);
        keeps(season, reason, detail);
    }

    static void keeps(TheatreSeasons season, int reason, int detail) {
        is(reason, season.reason(false));
        is(detail, season.reason(true));
    }

    /** Prints the closing line and ends the program. */
    static void end() {
        System.out.println(passed + " passed, " + failed + " failed");
        System.exit(failed == 0 && passed > 0 ? 0 : 1);
    }
}
