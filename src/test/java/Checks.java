/** Counts what holds and what does not, and tells the latter. */
final class Checks {
    private static String label = "";
    private static int passed = 0;
    private static int failed = 0;

    private Checks() {
    }

    /** Runs one group of checks; what it throws unexpectedly is a failed check. */
    static void group(String name, Runnable checks) {
        label = name;
        try {
            checks.run();
        } catch (RuntimeException e) {
            tell(false, "threw " + e);
        }
    }

    static void tell(boolean holds, String what) {
        if (holds) {
            passed++;
            return;
        }
        failed++;
        StackTraceElement[] trace = new Throwable().getStackTrace();
        String place = "";
        for (StackTraceElement step : trace) {
            if (!step.getClassName().equals("Checks")) {
                place = " at " + step.getFileName() + ":" + step.getLineNumber();
                break;
            }
        }
        System.out.println(label + place + ": " + what);
    }

    static void is(long due, long got) {
        tell(due == got, "answered " + got + ", due is " + due);
    }

    static void isReal(double due, double got) {
        tell(Double.compare(due, got) == 0, "answered " + got + ", due is " + due);
    }

    static void fails(Class<? extends RuntimeException> kind, Runnable call) {
        String got = "nothing";
        try {
            call.run();
        } catch (RuntimeException e) {
            got = e.getClass().getSimpleName();
        }
        tell(got.equals(kind.getSimpleName()), "threw " + got + ", due is " + kind.getSimpleName());
    }

    static void noIndex(Runnable call) {
        fails(IndexOutOfBoundsException.class, call);
    }

    static void noArgument(Runnable call) {
        fails(IllegalArgumentException.class, call);
    }

    static void noState(Runnable call) {
        fails(IllegalStateException.class, call);
    }

    static void noElement(Runnable call) {
        fails(java.util.NoSuchElementException.class, call);
    }

    static void refused(TheatreSeasons season, int reason, int detail, Runnable call) {
        fails(UnsupportedOperationException.class, call);
        is(reason, season.reason(false));
        is(detail, season.reason(true));
    }

    /** Prints the closing line and ends the program. */
    static void end() {
        System.out.println(passed + " passed, " + failed + " failed");
        System.exit(failed == 0 && passed > 0 ? 0 : 1);
    }
}
