/** Promises 6 to 10: fail, mend, rate, days, set. */
public final class GuardsAndDaysTest {
    public static void main(String[] args) {
        fail();
        mend();
        mendedGuardsAreWritten();
        rate();
        driftByRate();
        driftByOneAtLeast();
        driftToAnotherMiddle();
        driftRoundsDown();
        lastDay();
        anewByAge();
        lowestRowFirst();
        set();
        Due.end();
    }

    private static void fail() {
        DriftingLevels x = new DriftingLevels();
        x.days(1);
        Due.is("fail(0, 0, 999)", x.fail(0, 0, 999), 108);
        Due.is("fail(5, 2, 0)", x.fail(5, 2, 0), 892);
        Due.is("its value", x.guard(0, 0, 0), 999);
        Due.is("has failed", x.guard(0, 0, 1), 1);
        Due.is("another has not", x.guard(0, 1, 1), 0);
        Due.is("guards that have failed", x.count(6), 2);
        x.days(7);
        Due.is("fixed", x.guard(0, 0, 0), 999);
        Due.is("fixed", x.guard(5, 2, 0), 0);
        Due.is("not possible twice", x.fail(0, 0, 1), DriftingLevels.NOT_POSSIBLE);
        Due.invalid("rather invalid", x.fail(0, 0, 1000));
        Due.is("still its value", x.guard(0, 0, 0), 999);
        Due.invalid("fail(-1, 0, 0)", x.fail(-1, 0, 0));
        Due.invalid("fail(6, 0, 0)", x.fail(6, 0, 0));
        Due.invalid("fail(1, -1, 0)", x.fail(1, -1, 0));
        Due.invalid("fail(1, 3, 0)", x.fail(1, 3, 0));
        Due.invalid("fail(1, 0, -1)", x.fail(1, 0, -1));
        Due.is("recorded", x.count(15), 4);
    }

    private static void mend() {
        DriftingLevels x = new DriftingLevels();
        Due.is("mend of one that works", x.mend(2, 1), DriftingLevels.NOT_POSSIBLE);
        x.fail(2, 1, 120);
        Due.is("mend(2, 1)", x.mend(2, 1), 120);
        Due.is("has failed no more", x.guard(2, 1, 1), 0);
        Due.is("guards that have failed", x.count(6), 0);
        Due.is("keeps its value", x.guard(2, 1, 0), 120);
        x.days(1);
        // 380 * 20 / 1000 = 7
        Due.is("drifts on", x.guard(2, 1, 0), 127);
        Due.is("mend again", x.mend(2, 1), DriftingLevels.NOT_POSSIBLE);
        Due.invalid("mend(-1, 0)", x.mend(-1, 0));
        Due.invalid("mend(6, 0)", x.mend(6, 0));
        Due.invalid("mend(0, -1)", x.mend(0, -1));
        Due.invalid("mend(0, 3)", x.mend(0, 3));
        Due.is("may fail again", x.fail(2, 1, 5), 127);
    }

    private static void mendedGuardsAreWritten() {
        DriftingLevels x = new DriftingLevels();
        x.fail(2, 1, 120);
        x.anew(2);
        Due.is("failed and not written", x.guard(2, 1, 0), 120);
        x.mend(2, 1);
        x.anew(2);
        Due.is("mended and written", x.guard(2, 1, 0), 500);
    }

    private static void rate() {
        DriftingLevels x = new DriftingLevels();
        Due.is("rate(0, 200)", x.rate(0, 200), 20);
        Due.is("rate(0, 1)", x.rate(0, 1), 200);
        Due.is("row(0, 8)", x.row(0, 8), 1);
        Due.is("row(1, 8)", x.row(1, 8), 20);
        Due.invalid("rate(-1, 1)", x.rate(-1, 1));
        Due.invalid("rate(6, 1)", x.rate(6, 1));
        Due.invalid("rate(0, 0)", x.rate(0, 0));
        Due.invalid("rate(0, 201)", x.rate(0, 201));
        Due.is("unchanged", x.row(0, 8), 1);
        Due.is("recorded", x.count(15), 2);
    }

    private static void driftByRate() {
        DriftingLevels x = new DriftingLevels();
        x.rate(1, 200);
        x.write(0, 1, 2);
        Due.is("days(1)", x.days(1), 0);
        Due.is("guard 0: 400 * 20 / 1000 = 8", x.guard(0, 0, 0), 108);
        Due.is("guard 1 is there", x.guard(0, 1, 0), 500);
        Due.is("guard 2", x.guard(0, 2, 0), 892);
        Due.is("cell 0: 410 * 20 / 1000 = 8", x.cell(0, 0, 1), 98);
        Due.is("cell 1: 396 * 20 / 1000 = 7", x.cell(0, 1, 1), 889);
        Due.is("guard 0: 400 * 200 / 1000 = 80", x.guard(1, 0, 0), 180);
        Due.is("cell 0: 408 * 200 / 1000 = 81", x.cell(1, 0, 1), 173);
        x.days(2);
        Due.is("108, 115, 122", x.guard(0, 0, 0), 122);
        Due.is("180, 244, 295", x.guard(1, 0, 0), 295);
        Due.is("the day of now", x.count(0), 3);
    }

    private static void driftByOneAtLeast() {
        DriftingLevels x = new DriftingLevels();
        x.rate(0, 1);
        x.days(1);
        Due.is("guard 0", x.guard(0, 0, 0), 101);
        Due.is("guard 2", x.guard(0, 2, 0), 899);
        Due.is("cell 0", x.cell(0, 0, 1), 91);
        x.write(1, 0, 1);
        int distance = Math.abs(x.cell(1, 0, 1) - 500);
        Due.is("a cell near the middle", distance, 3);
        x.days(2);
        Due.is("is nearer", Math.abs(x.cell(1, 0, 1) - 500), 1);
        x.days(2);
        Due.is("and stays there", x.cell(1, 0, 1), 500);
    }

    private static void driftToAnotherMiddle() {
        DriftingLevels x = new DriftingLevels();
        x.set(0, 700);
        x.days(1);
        Due.is("guard 0: 600 * 20 / 1000", x.guard(0, 0, 0), 112);
        Due.is("guard 1: 200 * 20 / 1000", x.guard(0, 1, 0), 504);
        Due.is("guard 2: 200 * 20 / 1000", x.guard(0, 2, 0), 896);
    }

    private static void driftRoundsDown() {
        DriftingLevels x = new DriftingLevels();
        x.rate(0, 6);
        x.fail(0, 0, 167);
        x.fail(0, 2, 833);
        x.mend(0, 0);
        x.mend(0, 2);
        x.days(1);
        Due.is("333 * 6 / 1000 = 1", x.guard(0, 0, 0), 168);
        Due.is("333 * 6 / 1000 = 1", x.guard(0, 2, 0), 832);
    }

    private static void lastDay() {
        DriftingLevels x = new DriftingLevels();
        for (int i = 0; i < 100; i++) {
            x.days(99);
        }
        Due.is("9900", x.count(0), 9900);
        Due.is("9 days", x.days(9), 0);
        Due.is("above 9999", x.days(91), DriftingLevels.LIMIT_REACHED);
        Due.is("9999", x.days(90), 0);
        Due.is("the day of now", x.count(0), 9999);
        Due.is("above 9999", x.days(1), DriftingLevels.LIMIT_REACHED);
        Due.invalid("rather invalid", x.days(0));
        Due.invalid("rather invalid", x.days(100));
        Due.invalid("days(-1)", x.days(-1));
        Due.is("the day of now stays", x.count(0), 9999);
        Due.is("the other calls work", x.write(0, 0, 0), 101);
        Due.is("what would be is told beyond", x.rightFor(0), 0);
        x.anew(0);
        Due.is("what would be is told beyond", x.rightFor(0), 139);
    }

    private static void anewByAge() {
        DriftingLevels x = new DriftingLevels();
        x.set(2, 3);
        x.days(1);
        x.anew(4);
        x.days(1);
        Due.is("not yet", x.count(9), 1);
        Due.is("age", x.row(0, 9), 2);
        x.days(1);
        Due.is("five rows", x.count(9), 6);
        Due.is("age", x.row(0, 9), 0);
        Due.is("age of the row 4", x.row(4, 9), 2);
        Due.is("guard", x.guard(0, 0, 0), 100);
        Due.is("days since written", x.cell(0, 0, 7), 0);
        x.days(1);
        Due.is("the row 4", x.count(9), 7);
        x.set(2, 0);
        x.days(20);
        Due.is("never", x.count(9), 7);
        x.set(2, 99);
        Due.is("at once only when a day ends", x.count(9), 7);
        x.set(2, 5);
        Due.is("not by set", x.row(0, 9), 21);
        x.days(1);
        Due.is("all that are old by now", x.count(9), 13);
    }

    /**
     * After 40 days the cells hold over 300, and are told right only by guards that drifted with them:
     * the row 0 is told by those of the row 1 ahead of their writing, the row 5 by those of the row 4 after it.
     */
    private static void lowestRowFirst() {
        DriftingLevels x = new DriftingLevels();
        x.set(2, 40);
        x.fail(0, 1, 0);
        x.days(39);
        Due.is("source of the row 0", x.row(0, 3), 1);
        Due.is("days(1)", x.days(1), 0);
        Due.is("row 0 is told by drifted ones", x.row(0, 12), 0);
        DriftingLevels y = new DriftingLevels();
        y.set(2, 40);
        y.fail(5, 1, 0);
        Due.is("days(40)", y.days(40), 8);
        Due.is("row 5 is told by new ones", y.row(5, 12), 8);
        Due.is("and written so", y.row(5, 11), 3280);
        Due.is("levels lost", y.count(7), 8);
    }

    private static void set() {
        DriftingLevels x = new DriftingLevels();
        Due.is("set(0, 300)", x.set(0, 300), 500);
        Due.is("set(0, 700)", x.set(0, 700), 300);
        Due.is("set(1, 1)", x.set(1, 1), 40);
        Due.is("set(1, 300)", x.set(1, 300), 1);
        Due.is("set(2, 99)", x.set(2, 99), 0);
        Due.is("set(2, 0)", x.set(2, 0), 99);
        Due.is("count(20)", x.count(20), 700);
        Due.is("count(21)", x.count(21), 300);
        Due.is("count(22)", x.count(22), 0);
        Due.invalid("set(0, 299)", x.set(0, 299));
        Due.invalid("set(0, 701)", x.set(0, 701));
        Due.invalid("set(1, 0)", x.set(1, 0));
        Due.invalid("set(1, 301)", x.set(1, 301));
        Due.invalid("set(2, -1)", x.set(2, -1));
        Due.invalid("set(2, 100)", x.set(2, 100));
        Due.invalid("set(-1, 50)", x.set(-1, 50));
        Due.invalid("set(3, 50)", x.set(3, 50));
        Due.is("unchanged", x.count(20), 700);
    }
}
