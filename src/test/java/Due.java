/** Counts answers that are not the ones that are due, and ends a test with the exit code that says so. */
final class Due {
    private static long asked = 0;
    private static long wrong = 0;

    private Due() {
    }

    static void is(String call, long got, long want) {
        asked++;
        if (got != want) {
            wrong++;
            if (wrong <= 200) {
                System.out.println(call + " answered " + got + ", due is " + want);
            }
        }
    }

    static void holds(String claim, boolean isTrue) {
        asked++;
        if (!isTrue) {
            wrong++;
            System.out.println("not so: " + claim);
        }
    }

    static void finish() {
        System.out.println(asked + " answers, " + wrong + " of them wrong");
        if (wrong != 0 || asked == 0) {
            System.exit(1);
        }
    }
}
