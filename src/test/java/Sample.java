/** Objects that several tests begin with. */
final class Sample {
    private Sample() {
    }

    /** The guards 0 and 1 of a row fail at 0 and twice the number, which is its lower threshold then. */
    static void lower(DriftingLevels x, int row, int threshold) {
        x.fail(row, 0, 0);
        x.fail(row, 1, 2 * threshold);
    }

    /** The row 0 has the thresholds 100 and 550, and its cells of 106, 101, 107 and 102 are told wrong. */
    static DriftingLevels withFourWrong() {
        DriftingLevels x = new DriftingLevels();
        lower(x, 0, 100);
        return x;
    }

    /** The guard 1 of some rows fails at 0, so that their own thresholds are not right. */
    static DriftingLevels notRight(int... rows) {
        DriftingLevels x = new DriftingLevels();
        for (int row : rows) {
            x.fail(row, 1, 0);
        }
        return x;
    }

    /** Many days have passed, by 99 in a call. */
    static DriftingLevels onDay(int day) {
        DriftingLevels x = new DriftingLevels();
        for (int left = day; left > 0; left -= Math.min(left, 99)) {
            x.days(Math.min(left, 99));
        }
        return x;
    }

    static DriftingLevels withText(String text) {
        DriftingLevels x = new DriftingLevels();
        Due.type(x, text);
        return x;
    }

    /** Nearly all that a state holds differs from what is at first; the history is full, the text has a fault. */
    static DriftingLevels used() {
        DriftingLevels x = withFourWrong();
        x.write(5, 3, 2);
        x.ask(5, 3);
        x.anew(0);
        x.ask(0, 1);
        x.days(7);
        x.set(2, 30);
        x.set(0, 450);
        x.set(1, 35);
        x.rate(3, 55);
        x.mend(0, 1);
        x.fail(4, 2, 9);
        x.write(5, 4, 2);
        Due.type(x, "a0;d3;x");
        return x;
    }
}
