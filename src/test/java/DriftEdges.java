/** The sentences of "Drift", with those of thresholds and telling. */
final class DriftEdges {
    private DriftEdges() {
    }

    static void all() {
        inTheMiddle();
        byTheRateOfTheRow();
        byOneAtLeast();
        oneDayMore();
        ageIsReached();
        ageIsPassed();
        ageIsOfTheGuards();
        noAge();
        writtenAfterTheDrift();
        lowestRowFirst();
        ownThresholds();
        rightByTheLowerGuards();
        rightByTheUpperGuards();
        rightByOtherSettings();
        sourceOwn();
        sourceBeside();
        sourceBesideAtTheEnds();
        sourceFixed();
        below();
        atLeast();
        crossed();
        toldWrong();
        toldAheadOfTheGuards();
        lost();
    }

    private static void inTheMiddle() {
        Doc.quote("Drift", "When a day ends, each value of a cell, or of a guard that has not failed,"
            + " comes nearer to the middle (setting 0), if it is not there:");
        for (int middle : new int[] {300, 500, 700}) {
            Due.is("a guard there", drifted(middle, 200, middle, 99), middle);
            Due.is("one above", drifted(middle, 200, middle + 1, 1), middle);
            Due.is("one below", drifted(middle, 200, middle - 1, 1), middle);
            Due.is("and on", drifted(middle, 200, middle - 1, 2), middle);
        }
        DriftingLevels x = new DriftingLevels();
        x.rate(3, 200);
        x.write(3, 4, 1);
        x.days(99);
        Due.is("a cell there", x.cell(3, 4, 1), 500);
        x.fail(3, 0, 100);
        x.days(1);
        Due.is("a guard that has failed", x.guard(3, 0, 0), 100);
    }

    /** The value of a guard that was mended at a value, after some days. */
    private static int drifted(int middle, int rate, int value, int days) {
        DriftingLevels x = new DriftingLevels();
        x.set(0, middle);
        x.rate(1, rate);
        x.fail(1, 2, value);
        x.mend(1, 2);
        x.days(days);
        return x.guard(1, 2, 0);
    }

    private static void byTheRateOfTheRow() {
        Doc.quote("Drift", "by its distance from it * the rate of its row / 1000");
        Due.is("499 * 200 / 1000", drifted(500, 200, 999, 1), 900);
        Due.is("500 * 200 / 1000", drifted(500, 200, 0, 1), 100);
        Due.is("700 * 200 / 1000", drifted(700, 200, 0, 1), 140);
        Due.is("699 * 200 / 1000", drifted(300, 200, 999, 1), 860);
        Due.is("9 * 200 / 1000", drifted(500, 200, 509, 1), 508);
        Due.is("10 * 200 / 1000", drifted(500, 200, 510, 1), 508);
        Due.is("333 * 6 / 1000 up", drifted(500, 6, 167, 1), 168);
        Due.is("333 * 6 / 1000 down", drifted(500, 6, 833, 1), 832);
        DriftingLevels x = new DriftingLevels();
        x.rate(0, 100);
        x.days(1);
        Due.is("the last cell of the row 0: 403 * 100 / 1000", x.cell(0, 7, 1), 137);
        Due.is("the last guard of the row 0", x.guard(0, 2, 0), 860);
        Due.is("the first cell of the row 1: 408 * 20 / 1000", x.cell(1, 0, 1), 100);
        Due.is("the first guard of the row 1", x.guard(1, 0, 0), 108);
    }

    private static void byOneAtLeast() {
        Doc.quote("Drift", "but by 1 at least.");
        Due.is("699 * 1 / 1000", drifted(300, 1, 999, 1), 998);
        Due.is("499 * 2 / 1000", drifted(500, 2, 999, 1), 998);
        Due.is("500 * 2 / 1000", drifted(500, 2, 0, 1), 1);
        Due.is("4 * 200 / 1000", drifted(500, 200, 496, 1), 497);
        Due.is("5 * 200 / 1000", drifted(500, 200, 495, 1), 496);
        Due.is("1 * 1 / 1000", drifted(500, 1, 501, 1), 500);
        DriftingLevels x = new DriftingLevels();
        x.rate(0, 1);
        x.days(99);
        Due.is("a cell of 90", x.cell(0, 0, 1), 189);
    }

    private static void oneDayMore() {
        Doc.quote("Drift", "Then now is 1 more.");
        DriftingLevels x = new DriftingLevels();
        x.days(1);
        Due.is("1", x.count(0), 1);
        x.days(99);
        Due.is("100", x.count(0), 100);
        x.set(2, 1);
        x.days(1);
        Due.is("101", x.count(0), 101);
        Due.is("what is written then is written on the day 101", x.cell(0, 0, 7), 0);
        Due.is("its guards, too", x.row(0, 9), 0);
    }

    private static void ageIsReached() {
        Doc.quote("Drift", "each row whose age (the days since its guards were written) is setting 2 or more"
            + " is written anew");
        for (int age : new int[] {1, 2, 50, 99}) {
            DriftingLevels x = new DriftingLevels();
            x.set(2, age);
            for (int day = 1; day < age; day++) {
                x.days(1);
            }
            Due.is("times a day ahead of " + age, x.count(9), 0);
            Due.is("age a day ahead of " + age, x.row(5, 9), age - 1);
            x.days(1);
            Due.is("times on the day " + age, x.count(9), 6);
            Due.is("age on the day " + age, x.row(5, 9), 0);
        }
    }

    /** Cells that are written do not make a row younger. */
    private static void ageIsPassed() {
        Doc.quote("Drift", "each row whose age (the days since its guards were written) is setting 2 or more"
            + " is written anew");
        DriftingLevels x = new DriftingLevels();
        x.days(30);
        x.anew(2);
        x.days(3);
        x.fill(3, 0);
        x.set(2, 5);
        Due.is("not by set", x.count(9), 1);
        x.days(1);
        Due.is("the five of 34 days", x.count(9), 6);
        Due.is("not that of 4", x.row(2, 9), 4);
        Due.is("but one that was filled", x.row(3, 9), 0);
        x.days(1);
        Due.is("that of 5", x.row(2, 13), 2);
        Due.is("and no other", x.count(9), 7);
    }

    /** No change but anew() makes a row younger at once. */
    private static void ageIsOfTheGuards() {
        Doc.quote("Drift", "(the days since its guards were written)");
        DriftingLevels x = new DriftingLevels();
        x.days(7);
        x.write(4, 0, 1);
        x.fill(4, 6560);
        x.ask(4, 0);
        x.rate(4, 30);
        x.set(2, 7);
        x.fail(4, 0, 9);
        x.fail(4, 1, 9);
        x.fail(4, 2, 9);
        Due.is("age", x.row(4, 9), 7);
        x.mend(4, 1);
        Due.is("age", x.row(4, 9), 7);
        x.anew(4);
        Due.is("age", x.row(4, 9), 0);
        Due.is("age of another", x.row(3, 9), 7);
        x.undo();
        Due.is("age", x.row(4, 9), 7);
    }

    private static void noAge() {
        Doc.quote("Drift", "Then, if setting 2 is above 0,");
        DriftingLevels x = new DriftingLevels();
        x.days(99);
        Due.is("at 0 none", x.count(9), 0);
        x.set(2, 1);
        x.days(1);
        Due.is("at 1 all", x.count(9), 6);
        x.set(2, 0);
        x.days(1);
        Due.is("at 0 none", x.count(9), 6);
    }

    private static void writtenAfterTheDrift() {
        Doc.quote("Drift", "Then, if setting 2 is above 0, each row whose age");
        DriftingLevels x = new DriftingLevels();
        x.set(2, 1);
        x.days(1);
        Due.is("a cell that was just written has not drifted", x.cell(0, 0, 1), 101);
        Due.is("nor has a guard", x.guard(0, 0, 0), 100);
        DriftingLevels y = new DriftingLevels();
        Sample.lower(y, 0, 115);
        y.set(2, 1);
        // The cell of 107 holds 114 after one day, and 108 is the highest that is written then, 115 a day later.
        Due.is("what has drifted is told", y.days(1), 0);
        Due.is("and is told wrong", y.days(1) > 0 ? 1 : 0, 1);
    }

    /** After 40 days the cells hold over 300, and are told right by guards that drifted with them alone. */
    private static void lowestRowFirst() {
        Doc.quote("Drift", "the lowest row first.");
        DriftingLevels x = Sample.notRight(0);
        x.set(2, 40);
        Due.is("the row 0 by the row 1 that is not written yet", x.days(40), 0);
        DriftingLevels y = Sample.notRight(5);
        y.set(2, 40);
        Due.is("the row 5 by the row 4 that is written", y.days(40), 8);
        DriftingLevels z = Sample.notRight(2);
        z.fail(1, 1, 0);
        z.set(2, 40);
        Due.is("the row 1 by the row 0, the row 2 by the row 3", z.days(40), 8);
        Due.is("the row 1 by one that is written", z.row(1, 12), 8);
        Due.is("the row 2 by one that is not", z.row(2, 12), 0);
    }

    private static void ownThresholds() {
        Doc.quote("Drift", "Thresholds, telling", "The own thresholds of a row are the mean of its guards 0 and 1,"
            + " and that of its guards 1 and 2.");
        DriftingLevels x = new DriftingLevels();
        x.fail(5, 0, 0);
        x.fail(5, 1, 400);
        x.fail(5, 2, 998);
        Due.is("lower", x.row(5, 0), 200);
        Due.is("upper", x.row(5, 1), 699);
        Due.is("lower beside", x.row(4, 0), 300);
        Due.is("upper beside", x.row(4, 1), 700);
        x.days(10);
        Due.is("lower, fixed", x.row(5, 0), 200);
        // 100 after ten days by 20: 108, 115, 122, 129, 136, 143, 150, 157, 163, 169
        Due.is("lower beside, drifted", x.row(4, 0), 334);
    }

    private static int right(int apart, int guard, int value) {
        DriftingLevels x = new DriftingLevels();
        x.set(1, apart);
        x.fail(3, guard, value);
        return x.row(3, 2);
    }

    private static void rightByTheLowerGuards() {
        Doc.quote("Drift", "They are right if the guard 1 is at least setting 1 above the guard 0");
        Due.is("40 apart", right(40, 0, 460), 1);
        Due.is("39 apart", right(40, 0, 461), 0);
        Due.is("not apart", right(40, 0, 500), 0);
        Due.is("the wrong way", right(40, 0, 540), 0);
        Due.is("the guard 1 just above", right(40, 1, 140), 1);
        Due.is("the guard 1 too near", right(40, 1, 139), 0);
    }

    private static void rightByTheUpperGuards() {
        Doc.quote("Drift", "and the guard 2 at least setting 1 above the guard 1.");
        Due.is("40 apart", right(40, 2, 540), 1);
        Due.is("39 apart", right(40, 2, 539), 0);
        Due.is("not apart", right(40, 2, 500), 0);
        Due.is("the wrong way", right(40, 2, 460), 0);
        Due.is("the guard 1 just below", right(40, 1, 860), 1);
        Due.is("the guard 1 too near", right(40, 1, 861), 0);
    }

    private static void rightByOtherSettings() {
        Doc.quote("Drift", "They are right if the guard 1 is at least setting 1 above the guard 0,"
            + " and the guard 2 at least setting 1 above the guard 1.");
        Due.is("1 apart", right(1, 0, 499), 1);
        Due.is("0 apart", right(1, 0, 500), 0);
        Due.is("1 apart above", right(1, 2, 501), 1);
        Due.is("0 apart above", right(1, 2, 500), 0);
        Due.is("300 apart", right(300, 0, 200), 1);
        Due.is("299 apart", right(300, 0, 201), 0);
        Due.is("300 apart above", right(300, 2, 800), 1);
        Due.is("299 apart above", right(300, 2, 799), 0);
    }

    /** The rows beside are right, too, with other thresholds. */
    private static void sourceOwn() {
        Doc.quote("Drift", "The thresholds by which a row is told are its own ones, if they are right (the source is 0);");
        DriftingLevels x = new DriftingLevels();
        x.fail(3, 0, 460);
        x.fail(3, 2, 540);
        Due.is("source", x.row(3, 3), 0);
        Due.is("lower", x.row(3, 4), 480);
        Due.is("upper", x.row(3, 5), 520);
        Due.is("source beside", x.row(2, 3), 0);
        Due.is("lower beside", x.row(2, 4), 300);
    }

    /** The rows 1, 3 and 4 have own thresholds that can be told from each other. */
    private static DriftingLevels withThreeKinds(int... notRight) {
        DriftingLevels x = Sample.notRight(notRight);
        x.fail(1, 0, 200);
        x.fail(1, 2, 800);
        x.fail(3, 0, 60);
        x.fail(3, 2, 980);
        return x;
    }

    private static void thresholdsAre(DriftingLevels x, int row, int source, int lower, int upper) {
        Due.is("source of " + row, x.row(row, 3), source);
        Due.is("lower of " + row, x.row(row, 4), lower);
        Due.is("upper of " + row, x.row(row, 5), upper);
    }

    private static void sourceBeside() {
        Doc.quote("Drift", "otherwise, of the rows beside it (above and below it, as far as there are) those whose own"
            + " thresholds are right: these, or, if both are, the means of both (1);");
        // The own ones of the row 1 are 350 and 650, those of the row 3 are 280 and 740.
        thresholdsAre(withThreeKinds(2), 2, 1, 315, 695);
        thresholdsAre(withThreeKinds(2, 1), 2, 1, 280, 740);
        thresholdsAre(withThreeKinds(2, 3), 2, 1, 350, 650);
        // A row beside that is told by another one itself has no thresholds to give.
        DriftingLevels x = withThreeKinds(2, 3, 1);
        thresholdsAre(x, 1, 1, 300, 700);
        thresholdsAre(x, 2, 2, 300, 700);
        thresholdsAre(x, 3, 1, 300, 700);
    }

    private static void sourceBesideAtTheEnds() {
        Doc.quote("Drift", "of the rows beside it (above and below it, as far as there are)");
        thresholdsAre(withThreeKinds(0), 0, 1, 350, 650);
        DriftingLevels x = Sample.notRight(5);
        x.fail(4, 0, 60);
        x.fail(4, 2, 980);
        thresholdsAre(x, 5, 1, 280, 740);
        thresholdsAre(Sample.notRight(0, 1), 0, 2, 300, 700);
        thresholdsAre(Sample.notRight(5, 4), 5, 2, 300, 700);
    }

    private static void sourceFixed() {
        Doc.quote("Drift", "otherwise 300 and 700 (2).");
        DriftingLevels x = Sample.notRight(0, 1, 2, 3, 4, 5);
        x.days(50);
        for (int row = 0; row < 6; row++) {
            thresholdsAre(x, row, 2, 300, 700);
        }
    }

    /** Of the row 0: its cell 2 holds 101. */
    private static int toldOf101(int lower) {
        DriftingLevels x = new DriftingLevels();
        Sample.lower(x, 0, lower);
        return x.cell(0, 2, 2);
    }

    private static void below() {
        Doc.quote("Drift", "A cell is told 0 if its value is below the lower threshold");
        Due.is("101 at 100", toldOf101(100), 1);
        Due.is("101 at 101", toldOf101(101), 1);
        Due.is("101 at 102", toldOf101(102), 0);
    }

    /** The cell 0 of the row 0 is written with 501. */
    private static int toldOf501(int upper) {
        DriftingLevels x = new DriftingLevels();
        x.fail(0, 1, 300);
        x.fail(0, 2, 2 * upper - 300);
        x.write(0, 0, 1);
        return x.cell(0, 0, 2);
    }

    private static void atLeast() {
        Doc.quote("Drift", "otherwise 2 if its value is at least the upper one, otherwise 1.");
        Due.is("501 at 500", toldOf501(500), 2);
        Due.is("501 at 501", toldOf501(501), 2);
        Due.is("501 at 502", toldOf501(502), 1);
    }

    /** Own thresholds the wrong way round, of which what 3 of cell() tells, and such that are one. */
    private static void crossed() {
        Doc.quote("Drift", "A cell is told 0 if its value is below the lower threshold,"
            + " otherwise 2 if its value is at least the upper one, otherwise 1.");
        DriftingLevels x = new DriftingLevels();
        x.write(0, 0, 1);
        x.fail(0, 0, 999);
        x.fail(0, 1, 5);
        x.fail(0, 2, 0);
        Due.is("501 by 502 and 2", x.cell(0, 0, 3), 0);
        x.mend(0, 0);
        x.fail(0, 0, 998);
        Due.is("501 by 501 and 2", x.cell(0, 0, 3), 2);
        x.mend(0, 1);
        x.fail(0, 1, 4);
        x.mend(0, 2);
        x.fail(0, 2, 998);
        Due.is("501 by 501 and 501", x.cell(0, 0, 3), 2);
        Due.is("106 by 501 and 501", x.cell(0, 1, 3), 0);
    }

    private static void toldWrong() {
        Doc.quote("Drift", "It is told wrong if that is not its level.");
        DriftingLevels x = Sample.withFourWrong();
        Due.is("told 1, and 0 is the level", x.row(0, 6), 4);
        x.write(0, 1, 1);
        Due.is("told 1, and 1 is the level", x.row(0, 6), 3);
        x.fail(0, 2, 780);
        // By 100 and 490, 496 is told 2.
        Due.is("told 2, and 1 is the level", x.row(0, 6), 4);
        x.write(0, 1, 2);
        Due.is("told 2, and 2 is the level", x.row(0, 6), 3);
    }

    /** By guards that have come nearer, as the cells have, none is told wrong; by new ones all would be. */
    private static void toldAheadOfTheGuards() {
        Doc.quote("Drift", "To write a row anew is: all its cells are told, and then what was told is written into them,"
            + " by their numbers, and its guards are written.");
        DriftingLevels x = new DriftingLevels();
        x.days(60);
        Due.is("told wrong by 300 and 700", x.row(0, 7), 8);
        Due.is("anew(0)", x.anew(0), 0);
        Due.is("the word", x.row(0, 11), 0);
        Due.is("the guard 0", x.guard(0, 0, 0), 100);
        Due.is("the guard 1", x.guard(0, 1, 0), 500);
        Due.is("the guard 2", x.guard(0, 2, 0), 900);
        Due.is("the age", x.row(0, 9), 0);
        Due.is("the first cell", x.cell(0, 0, 1), 101);
        Due.is("the last cell", x.cell(0, 7, 1), 108);
        Due.is("the guards of another", x.row(1, 9), 60);
    }

    private static void lost() {
        Doc.quote("Drift", "A level that was told wrong is lost by that.");
        DriftingLevels x = Sample.withFourWrong();
        x.anew(0);
        int[] levels = {0, 1, 1, 0, 0, 1, 1, 0};
        for (int cell = 0; cell < 8; cell++) {
            Due.is("level of the cell " + cell, x.cell(0, cell, 0), levels[cell]);
        }
        Due.is("lost", x.row(0, 12), 4);
        DriftingLevels y = new DriftingLevels();
        y.anew(0);
        Due.is("none", y.row(0, 12), 0);
    }
}
