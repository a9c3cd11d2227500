/** Counts the answers that are not the ones that are due; every test ends with end(). */
final class Due {
    private static int asked = 0;
    private static int wrong = 0;

    private Due() {
    }

    static void is(String call, long got, long want) {
        asked++;
        if (got != want) {
            wrong++;
            System.out.println(call + " answered " + got + ", due is " + want);
        }
    }

    static void is(String call, boolean got, boolean want) {
        is(call, got ? 1 : 0, want ? 1 : 0);
    }

    /** A call that was done. */
    static void done(String call, FairTables x, boolean got) {
        is(call, got, true);
        is(call + ": status()", x.status(), 0);
    }

    /** A call that was done and answered a number. */
    static void gives(String call, FairTables x, long got, long want) {
        is(call, got, want);
        is(call + ": status()", x.status(), 0);
    }

    /** A call that gave NONE with a STATUS. */
    static void none(String call, FairTables x, long got, int status) {
        is(call, got, FairTables.NONE);
        is(call + ": status()", x.status(), status);
    }

    /** A call that gave false with a STATUS. */
    static void not(String call, FairTables x, boolean got, int status) {
        is(call, got, false);
        is(call + ": status()", x.status(), status);
    }

    /** A call of any kind that gave NONE, or false, with a STATUS. */
    static void refused(String call, FairTables x, Object got, int status) {
        if (got instanceof Boolean) {
            not(call, x, (Boolean) got, status);
        } else {
            none(call, x, ((Number) got).longValue(), status);
        }
    }

    static void end() {
        System.out.println(wrong == 0 ? asked + " answers are as due" : wrong + " of " + asked + " answers are not as due");
        if (wrong != 0) {
            System.exit(1);
        }
    }
}
