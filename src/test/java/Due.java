/** Counts answers that are not the ones that are due, and ends a test with the exit code that says so. */
final class Due {
    private static final int ROWS_AT_MOST = 200;

    private static String subject = "";
    private static long asked = 0;
    private static long wrong = 0;

    private Due() {
    }

    /** What the answers from here on stand for; it is told with each wrong one. */
    static void about(String text) {
        subject = text;
    }

    static void is(String call, long got, long want) {
        asked++;
        if (got != want) {
            tell(call + " answered " + got + ", due is " + want);
        }
    }

    static void holds(String claim, boolean isTrue) {
        asked++;
        if (!isTrue) {
            tell("not so: " + claim);
        }
    }

    static void finish() {
        System.out.println(asked + " answers, " + wrong + " of them wrong");
        if (wrong != 0 || asked == 0) {
            System.exit(1);
        }
    }

    private static void tell(String fault) {
        wrong++;
        if (wrong <= ROWS_AT_MOST) {
            System.out.println(subject.isEmpty() ? fault : subject + ": " + fault);
        }
    }
}
