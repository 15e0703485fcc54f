/** The sentences of "Terms" and "Settings". */
final class TermEdges {
    /** The errors of a cell whose first one is -10, by how often it was written before. */
    private static final int[] ERRORS = {-10, 1, -9, 2, -8, 3, -7, 4, -6, 5, -5, 6, -4, 7, -3, 8, -2, 9, -1, 10, 0};
    private static final int[] AIMS = {100, 500, 900};

    private TermEdges() {
    }

    static void all() {
        divisionOfTheDrift();
        divisionOfTheThresholds();
        divisionOfTheMeans();
        daysFromZero();
        setsAsBits();
        rowsCellsGuards();
        rowsAreNoRing();
        levelsAndValues();
        aims();
        writtenOnceMore();
        errorsComeRound();
        errorsOfTheLastCell();
        guardsThatHaveNotFailed();
        atFirst();
        failedGuardsAreFixed();
        settings();
        neverByAge();
    }

    private static void divisionOfTheDrift() {
        Doc.quote("Terms", "All divisions are rounded down.");
        Due.is("99 * 20 / 1000 up", guardAfterADay(401), 402);
        Due.is("100 * 20 / 1000 up", guardAfterADay(400), 402);
        Due.is("149 * 20 / 1000 up", guardAfterADay(351), 353);
        Due.is("150 * 20 / 1000 up", guardAfterADay(350), 353);
        Due.is("99 * 20 / 1000 down", guardAfterADay(599), 598);
        Due.is("100 * 20 / 1000 down", guardAfterADay(600), 598);
        Due.is("149 * 20 / 1000 down", guardAfterADay(649), 647);
        Due.is("150 * 20 / 1000 down", guardAfterADay(650), 647);
    }

    private static int guardAfterADay(int value) {
        DriftingLevels x = new DriftingLevels();
        x.fail(3, 2, value);
        x.mend(3, 2);
        x.days(1);
        return x.guard(3, 2, 0);
    }

    private static void divisionOfTheThresholds() {
        Doc.quote("Terms", "All divisions are rounded down.");
        DriftingLevels x = new DriftingLevels();
        x.fail(4, 0, 101);
        x.fail(4, 2, 899);
        Due.is("601 / 2", x.row(4, 0), 300);
        Due.is("1399 / 2", x.row(4, 1), 699);
        x.mend(4, 0);
        x.fail(4, 0, 102);
        Due.is("602 / 2", x.row(4, 0), 301);
        x.fail(5, 0, 0);
        x.fail(5, 1, 1);
        x.fail(5, 2, 0);
        Due.is("1 / 2", x.row(5, 0), 0);
        Due.is("1 / 2", x.row(5, 1), 0);
    }

    /** The rows 1 and 3 have the lower thresholds 300 and 301, each of them rounded down already. */
    private static void divisionOfTheMeans() {
        Doc.quote("Terms", "All divisions are rounded down.");
        DriftingLevels x = Sample.notRight(2);
        x.fail(1, 0, 101);
        x.fail(3, 0, 103);
        x.fail(3, 2, 897);
        Due.is("row(1, 0)", x.row(1, 0), 300);
        Due.is("row(3, 0)", x.row(3, 0), 301);
        Due.is("601 / 2", x.row(2, 4), 300);
        Due.is("row(1, 1)", x.row(1, 1), 700);
        Due.is("row(3, 1)", x.row(3, 1), 698);
        Due.is("1398 / 2", x.row(2, 5), 699);
    }

    private static void daysFromZero() {
        Doc.quote("Terms", "Days are counted from 0; there is a day of now, 0 at first.");
        DriftingLevels x = new DriftingLevels();
        Due.is("the day of now", x.count(0), 0);
        Due.is("age", x.row(0, 9), 0);
        Due.is("days since it was written", x.cell(0, 0, 7), 0);
        x.days(1);
        Due.is("the day of now", x.count(0), 1);
        Due.is("age", x.row(0, 9), 1);
        Due.is("days since it was written", x.cell(0, 0, 7), 1);
    }

    private static void setsAsBits() {
        Doc.quote("Terms", "Sets of rows are told as bits: bit k is for the row k.");
        Due.is("no row is not right", new DriftingLevels().count(5), 0);
        Due.is("all rows are right", new DriftingLevels().count(3), 63);
        for (int row = 0; row < 6; row++) {
            DriftingLevels x = Sample.notRight(row);
            Due.is("the others are right", x.count(3), 63 - (1 << row));
            Due.is("told by those beside", x.count(4), 1 << row);
            DriftingLevels y = new DriftingLevels();
            Sample.lower(y, row, 90);
            Due.is("with cells told wrong", y.count(2), 1 << row);
        }
        Due.is("all by 300 and 700", Sample.notRight(0, 1, 2, 3, 4, 5).count(5), 63);
        Due.is("none by those beside", Sample.notRight(0, 1, 2, 3, 4, 5).count(4), 0);
    }

    private static void rowsCellsGuards() {
        Doc.quote("Terms", "There are 6 rows, numbered from 0, one below the other, each of 8 cells, 0 to 7,"
            + " and 3 guards, 0 to 2.");
        DriftingLevels x = new DriftingLevels();
        Due.is("cells of a level", x.count(12), 48);
        Due.is("write(0, 0, 2)", x.write(0, 0, 2), 901);
        Due.is("write(5, 7, 2)", x.write(5, 7, 2), 897);
        Due.is("word of the row 0", x.row(0, 11), 2);
        Due.is("word of the row 5", x.row(5, 11), 2 * 2187);
        Due.is("the last guard", x.fail(5, 2, 999), 900);
        Due.is("the first guard", x.fail(0, 0, 0), 100);
        Due.invalid("cell(6, 0, 0)", x.cell(6, 0, 0));
        Due.invalid("cell(0, 8, 0)", x.cell(0, 8, 0));
        Due.invalid("cell(1, -1, 0)", x.cell(1, -1, 0));
        Due.invalid("guard(0, 3, 0)", x.guard(0, 3, 0));
        Due.invalid("guard(1, -1, 0)", x.guard(1, -1, 0));
    }

    private static void rowsAreNoRing() {
        Doc.quote("Terms", "Rows, cells, guards", "one below the other");
        Due.is("the row 0 is not beside the row 5", Sample.notRight(0, 1).row(0, 3), 2);
        Due.is("the row 5 is not beside the row 0", Sample.notRight(4, 5).row(5, 3), 2);
    }

    private static void levelsAndValues() {
        Doc.quote("Terms", "A cell has a level (0 to 2; 0 at first), the one that was written last,"
            + " and a value (0 to 999).", "All numbers are whole numbers, where no float is told.");
        DriftingLevels x = new DriftingLevels();
        Due.is("level at first", x.cell(2, 4, 0), 0);
        x.write(2, 4, 2);
        Due.is("the one written last", x.cell(2, 4, 0), 2);
        x.write(2, 4, 1);
        Due.is("the one written last", x.cell(2, 4, 0), 1);
        x.write(2, 4, 0);
        Due.is("the one written last", x.cell(2, 4, 0), 0);
        Due.invalid("write(2, 4, 3)", x.write(2, 4, 3));
        Due.is("the lowest value", new DriftingLevels().cell(0, 0, 1), 90);
        Due.is("the highest value", highestValue(), 910);
        x.days(99);
        Due.is("the level stays", x.cell(2, 4, 0), 0);
    }

    private static int highestValue() {
        DriftingLevels x = new DriftingLevels();
        for (int written = 1; written < 19; written++) {
            x.write(0, 0, 0);
        }
        return x.write(0, 0, 2);
    }

    private static void aims() {
        Doc.quote("Terms", "The aims of the levels are the values 100, 500 and 900.",
            "A guard g has a value, too; it stands for the level g.");
        DriftingLevels x = new DriftingLevels();
        for (int level = 0; level < 3; level++) {
            Due.is("the guard " + level, x.guard(3, level, 0), AIMS[level]);
            // The error of the cell 0 of the row 0 is 0 if it was written 20 times before, or 41, or 62.
            for (int i = 0; i < (level == 0 ? 19 : 20); i++) {
                x.write(0, 0, level);
            }
            Due.is("a cell of the level " + level, x.write(0, 0, level), AIMS[level]);
        }
    }

    private static void writtenOnceMore() {
        Doc.quote("Terms", "To write a level into a cell is to give it the value that is its aim and its error"
            + " together, and to count it written once more;");
        DriftingLevels x = new DriftingLevels();
        for (int before = 1; before < 4; before++) {
            Due.is("written", x.cell(0, 0, 5), before);
            Due.is("value", x.write(0, 0, 1), 500 + ERRORS[before]);
        }
        Due.is("written", x.cell(0, 0, 5), 4);
        Due.is("another", x.cell(0, 1, 5), 1);
        x.fill(0, 0);
        Due.is("written by fill", x.cell(0, 0, 5), 5);
        x.anew(0);
        Due.is("written by anew", x.cell(0, 0, 5), 6);
        x.set(2, 1);
        x.days(1);
        Due.is("written by age", x.cell(0, 0, 5), 7);
    }

    private static void errorsComeRound() {
        Doc.quote("Terms", "the error is (37 * (8 * row + cell) + 11 * (how often it was written before))"
            + " left over by 21, less 10.");
        DriftingLevels x = new DriftingLevels();
        Due.is("at first", x.cell(0, 0, 1), 100 + ERRORS[0]);
        for (int before = 1; before <= 210; before++) {
            int level = before % 3;
            Due.is("written before " + before, x.write(0, 0, level), AIMS[level] + ERRORS[before % 21]);
        }
    }

    /** 37 * 47 = 1739 is 17 over by 21, as 11 * 13 = 143 is. */
    private static void errorsOfTheLastCell() {
        Doc.quote("Terms", "the error is (37 * (8 * row + cell) + 11 * (how often it was written before))"
            + " left over by 21, less 10.");
        DriftingLevels x = new DriftingLevels();
        Due.is("at first", x.cell(5, 7, 1), 107);
        for (int before = 1; before <= 42; before++) {
            Due.is("written before " + before, x.write(5, 7, 0), 100 + ERRORS[(13 + before) % 21]);
        }
        // 37 * 8 = 296 is 2 over, and 37 * 7 = 259 is 7 over.
        Due.is("the cell 0 of the row 1", x.cell(1, 0, 1), 92);
        Due.is("the cell 7 of the row 0", x.cell(0, 7, 1), 97);
    }

    private static void guardsThatHaveNotFailed() {
        Doc.quote("Terms", "To write the guards of a row is to give each one that has not failed the value of its aim.");
        DriftingLevels x = new DriftingLevels();
        x.fail(1, 0, 0);
        x.fail(2, 2, 999);
        for (int guard = 0; guard < 3; guard++) {
            x.fail(3, guard, 7);
        }
        x.days(9);
        for (int row = 0; row < 6; row++) {
            x.anew(row);
            Due.is("the age, whatever has failed", x.row(row, 9), 0);
        }
        Due.is("one that has not", x.guard(0, 0, 0), 100);
        Due.is("one that has", x.guard(1, 0, 0), 0);
        Due.is("beside it", x.guard(1, 1, 0), 500);
        Due.is("beside it", x.guard(1, 2, 0), 900);
        Due.is("one that has", x.guard(2, 2, 0), 999);
        Due.is("beside it", x.guard(2, 0, 0), 100);
        Due.is("all have", x.guard(3, 0, 0) + x.guard(3, 1, 0) + x.guard(3, 2, 0), 21);
    }

    private static void atFirst() {
        Doc.quote("Terms", "At first, on the day 0, all guards are written, and the level 0 into all cells"
            + " (that counts as written once).");
        DriftingLevels x = new DriftingLevels();
        for (int row = 0; row < 6; row++) {
            for (int guard = 0; guard < 3; guard++) {
                Due.is("guard " + guard, x.guard(row, guard, 0), AIMS[guard]);
            }
            for (int cell = 0; cell < 8; cell++) {
                Due.is("level", x.cell(row, cell, 0), 0);
                Due.is("written", x.cell(row, cell, 5), 1);
            }
        }
        Due.is("the day", x.count(0), 0);
    }

    private static void failedGuardsAreFixed() {
        Doc.quote("Terms", "A guard that has failed has a fixed value.");
        DriftingLevels x = new DriftingLevels();
        x.fail(0, 0, 0);
        x.fail(0, 1, 499);
        x.fail(0, 2, 999);
        x.rate(0, 200);
        x.set(2, 1);
        x.days(99);
        x.anew(0);
        Due.is("at 0", x.guard(0, 0, 0), 0);
        Due.is("at 499", x.guard(0, 1, 0), 499);
        Due.is("at 999", x.guard(0, 2, 0), 999);
    }

    private static void settings() {
        Doc.quote("Settings", "The settings are (in parentheses: range; first value): 0 the middle (300 to 700; 500),"
            + " 1 how far guards are to be apart (1 to 300; 40), 2 the age at which a row is written anew (0 to 99; 0:");
        DriftingLevels x = new DriftingLevels();
        Due.is("the middle at first", x.count(20), 500);
        Due.is("apart at first", x.count(21), 40);
        Due.is("the age at first", x.count(22), 0);
        x.fail(0, 1, 500);
        x.mend(0, 1);
        x.days(1);
        Due.is("a guard in the middle", x.guard(0, 1, 0), 500);
        x.fail(0, 0, 460);
        Due.is("40 apart", x.row(0, 2), 1);
        x.mend(0, 0);
        x.fail(0, 0, 461);
        Due.is("39 apart", x.row(0, 2), 0);
    }

    private static void neverByAge() {
        Doc.quote("Settings", "0: never");
        DriftingLevels x = Sample.onDay(300);
        Due.is("at first", x.count(9), 0);
        x.set(2, 99);
        x.set(2, 0);
        x.anew(0);
        x.days(1);
        x.anew(0);
        x.days(99);
        Due.is("but for the two", x.count(9), 2);
    }
}
