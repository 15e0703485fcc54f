/** Counts the answers that are due, and prints the calls whose answers are not. */
final class Due {
    private static int right;
    private static int wrong;

    private Due() {
    }

    static void is(String call, long got, long want) {
        if (got == want) {
            right++;
        } else {
            wrong++;
            System.out.println(call + " answered " + got + ", due is " + want);
        }
    }

    static void invalid(String call, long got) {
        is(call, got, DriftingLevels.INVALID_ARGUMENT);
    }

    /** Types a text, behind what has been typed. */
    static void type(DriftingLevels x, String text) {
        for (int i = 0; i < text.length(); i++) {
            x.type(text.charAt(i));
        }
    }

    /** Ends the test: with exit code 1 if an answer was wrong, or none was looked at. */
    static void end() {
        System.out.println(right + " answers as due, " + wrong + " not");
        if (wrong != 0 || right == 0) {
            System.exit(1);
        }
    }
}
