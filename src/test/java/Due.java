/** Counts the answers that are due, and prints the calls whose answers are not. */
final class Due {
    private static int right;
    private static int wrong;
    private static String words = "";
    private static int lookedAt = 1;

    private Due() {
    }

    static void is(String call, long got, long want) {
        lookedAt++;
        if (got == want) {
            right++;
        } else {
            wrong++;
            System.out.println(call + " answered " + got + ", due is " + want + (words.isEmpty() ? "" : ": " + words));
        }
    }

    static void same(String what, String got, String want) {
        is(what + " are the same", got.equals(want) ? 1 : 0, 1);
    }

    static void invalid(String call, long got) {
        is(call, got, DriftingLevels.INVALID_ARGUMENT);
    }

    /** The answers from here on are about these words; about the words before, one at least was looked at. */
    static void about(String nextWords) {
        int before = lookedAt;
        is("answers looked at", before > 0 ? 1 : 0, 1);
        words = nextWords;
        lookedAt = 0;
    }

    /** Types a text, behind what has been typed. */
    static void type(DriftingLevels x, String text) {
        for (int i = 0; i < text.length(); i++) {
            x.type(text.charAt(i));
        }
    }

    /** Ends the test: with exit code 1 if an answer was wrong, or none was looked at. */
    static void end() {
        about("");
        System.out.println(right + " answers as due, " + wrong + " not");
        if (wrong != 0 || right == 0) {
            System.exit(1);
        }
    }
}
