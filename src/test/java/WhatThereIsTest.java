/** Promises 11 to 14: cell, guard, row, table. */
public final class WhatThereIsTest {
    public static void main(String[] args) {
        cell();
        cellBesideTheThresholds();
        guard();
        row();
        rightThresholds();
        sources();
        edgesOfTheRows();
        divisionsRoundDown();
        crossedThresholds();
        rowCounts();
        table();
        Due.end();
    }

    private static void cell() {
        DriftingLevels x = Sample.withFourWrong();
        x.set(1, 201);
        // The own thresholds, 100 and 550, are not right now, so that those of the row 1 tell.
        Due.is("level", x.cell(0, 2, 0), 0);
        Due.is("value", x.cell(0, 2, 1), 101);
        Due.is("told by 300 and 700 of the row 1", x.cell(0, 2, 2), 0);
        Due.is("by its own", x.cell(0, 2, 3), 1);
        Due.is("by 300 and 700", x.cell(0, 2, 4), 0);
        Due.is("times written", x.cell(0, 2, 5), 1);
        Due.is("from the nearer", x.cell(0, 2, 6), 199);
        Due.is("days", x.cell(0, 2, 7), 0);
        x.days(4);
        Due.is("days", x.cell(0, 2, 7), 4);
        x.write(0, 2, 2);
        Due.is("days", x.cell(0, 2, 7), 0);
        Due.is("level", x.cell(0, 2, 0), 2);
        Due.is("by 300 and 700", x.cell(0, 2, 4), 2);
        x.write(0, 3, 1);
        Due.is("by 300 and 700", x.cell(0, 3, 4), 1);
        Due.is("times written", x.cell(0, 2, 5), 2);
        Due.is("from the nearer, the upper one", x.cell(0, 2, 6), x.cell(0, 2, 1) - x.row(0, 5));
        Due.invalid("cell(-1, 0, 0)", x.cell(-1, 0, 0));
        Due.invalid("cell(6, 0, 0)", x.cell(6, 0, 0));
        Due.invalid("cell(0, -1, 0)", x.cell(0, -1, 0));
        Due.invalid("cell(0, 8, 0)", x.cell(0, 8, 0));
        Due.invalid("cell(0, 0, -1)", x.cell(0, 0, -1));
        Due.invalid("cell(0, 0, 8)", x.cell(0, 0, 8));
    }

    /** Values at and beside the thresholds 101 and 501: 101 is not below, 501 is at least the upper one. */
    private static void cellBesideTheThresholds() {
        DriftingLevels x = new DriftingLevels();
        x.fail(0, 0, 0);
        x.fail(0, 1, 202);
        x.fail(0, 2, 800);
        Due.is("lower", x.row(0, 4), 101);
        Due.is("upper", x.row(0, 5), 501);
        Due.is("101 is told", x.cell(0, 2, 2), 1);
        Due.is("how far", x.cell(0, 2, 6), 0);
        Due.is("97 is told", x.cell(0, 7, 2), 0);
        Due.is("write(0, 0, 1)", x.write(0, 0, 1), 501);
        Due.is("501 is told", x.cell(0, 0, 2), 2);
        Due.is("write(0, 1, 1)", x.write(0, 1, 1), 496);
        Due.is("496 is told", x.cell(0, 1, 2), 1);
        Due.is("how far", x.cell(0, 1, 6), 5);
    }

    private static void guard() {
        DriftingLevels x = new DriftingLevels();
        x.fail(3, 1, 77);
        Due.is("guard(3, 0, 0)", x.guard(3, 0, 0), 100);
        Due.is("guard(3, 1, 0)", x.guard(3, 1, 0), 77);
        Due.is("guard(3, 2, 0)", x.guard(3, 2, 0), 900);
        Due.is("guard(3, 1, 1)", x.guard(3, 1, 1), 1);
        Due.is("guard(3, 2, 1)", x.guard(3, 2, 1), 0);
        Due.is("guard(4, 1, 1)", x.guard(4, 1, 1), 0);
        Due.invalid("guard(-1, 0, 0)", x.guard(-1, 0, 0));
        Due.invalid("guard(6, 0, 0)", x.guard(6, 0, 0));
        Due.invalid("guard(0, -1, 0)", x.guard(0, -1, 0));
        Due.invalid("guard(0, 3, 0)", x.guard(0, 3, 0));
        Due.invalid("guard(0, 0, -1)", x.guard(0, 0, -1));
        Due.invalid("guard(0, 0, 2)", x.guard(0, 0, 2));
    }

    private static void row() {
        DriftingLevels x = new DriftingLevels();
        int[] due = {300, 700, 1, 0, 300, 700, 0, 0, 20, 0, 0, 0, 0, 0};
        for (int what = 0; what < due.length; what++) {
            Due.is("row(5, " + what + ")", x.row(5, what), due[what]);
        }
        Due.invalid("row(-1, 0)", x.row(-1, 0));
        Due.invalid("row(6, 0)", x.row(6, 0));
        Due.invalid("row(0, -1)", x.row(0, -1));
        Due.invalid("row(0, 14)", x.row(0, 14));
    }

    private static void rightThresholds() {
        DriftingLevels x = new DriftingLevels();
        x.fail(2, 0, 460);
        Due.is("40 apart", x.row(2, 2), 1);
        x.mend(2, 0);
        x.fail(2, 0, 461);
        Due.is("39 apart", x.row(2, 2), 0);
        x.set(1, 39);
        Due.is("39 apart, and 39 asked", x.row(2, 2), 1);
        x.mend(2, 0);
        x.fail(2, 0, 501);
        Due.is("crossed", x.row(2, 2), 0);
        DriftingLevels y = new DriftingLevels();
        y.fail(2, 2, 540);
        Due.is("upper 40 apart", y.row(2, 2), 1);
        y.mend(2, 2);
        y.fail(2, 2, 539);
        Due.is("upper 39 apart", y.row(2, 2), 0);
    }

    private static void sources() {
        DriftingLevels x = new DriftingLevels();
        x.fail(1, 0, 200);
        x.fail(3, 0, 303);
        x.fail(3, 2, 800);
        Due.is("own lower of 1", x.row(1, 0), 350);
        Due.is("own lower of 3", x.row(3, 0), 401);
        Due.is("own upper of 3", x.row(3, 1), 650);
        x.fail(2, 1, 950);
        Due.is("source of 2", x.row(2, 3), 1);
        Due.is("the means of both, down", x.row(2, 4), 375);
        Due.is("the means of both, down", x.row(2, 5), 675);
        Due.is("own lower of 2", x.row(2, 0), 525);
        Due.is("own upper of 2", x.row(2, 1), 925);
        x.fail(1, 1, 0);
        Due.is("source of 2", x.row(2, 3), 1);
        Due.is("that of 3", x.row(2, 4), 401);
        Due.is("that of 3", x.row(2, 5), 650);
        Due.is("source of 1", x.row(1, 3), 1);
        Due.is("that of 0", x.row(1, 4), 300);
        x.fail(3, 1, 0);
        Due.is("source of 2", x.row(2, 3), 2);
        Due.is("fixed", x.row(2, 4), 300);
        Due.is("fixed", x.row(2, 5), 700);
        x.mend(1, 1);
        x.fail(1, 1, 403);
        Due.is("that of 1", x.row(2, 4), 301);
        Due.is("that of 1", x.row(2, 5), 651);
    }

    /** The first and the last row have one row beside them. */
    private static void edgesOfTheRows() {
        DriftingLevels x = new DriftingLevels();
        x.fail(0, 1, 0);
        x.fail(5, 1, 0);
        x.fail(1, 0, 200);
        x.fail(4, 0, 300);
        Due.is("row 0 by the row 1", x.row(0, 4), 350);
        Due.is("row 5 by the row 4", x.row(5, 4), 400);
        x.fail(1, 1, 0);
        x.fail(4, 1, 0);
        Due.is("row 0 is fixed", x.row(0, 3), 2);
        Due.is("row 5 is fixed", x.row(5, 3), 2);
        Due.is("row 1 by the row 2", x.row(1, 3), 1);
        Due.is("row 4 by the row 3", x.row(4, 3), 1);
    }

    private static void divisionsRoundDown() {
        DriftingLevels x = new DriftingLevels();
        x.fail(0, 0, 101);
        x.fail(0, 2, 899);
        Due.is("601 / 2", x.row(0, 0), 300);
        Due.is("1399 / 2", x.row(0, 1), 699);
    }

    /** Own thresholds that are not right may stand the wrong way round: below the lower one is told 0. */
    private static void crossedThresholds() {
        DriftingLevels x = new DriftingLevels();
        x.fail(0, 0, 999);
        x.fail(0, 1, 501);
        x.fail(0, 2, 0);
        Due.is("own lower", x.row(0, 0), 750);
        Due.is("own upper", x.row(0, 1), 250);
        x.write(0, 0, 1);
        x.write(0, 1, 2);
        Due.is("501 is below 750", x.cell(0, 0, 3), 0);
        Due.is("896 is not", x.cell(0, 1, 3), 2);
        Due.is("106 is", x.cell(0, 2, 3), 0);
    }

    private static void rowCounts() {
        DriftingLevels x = Sample.withFourWrong();
        Due.is("told wrong", x.row(0, 6), 4);
        Due.is("by 300 and 700", x.row(0, 7), 0);
        Due.is("word told", x.row(0, 10), 984);
        Due.is("word of levels", x.row(0, 11), 0);
        x.days(60);
        Due.is("by 300 and 700, as they came over 300", x.row(1, 7), 8);
        Due.is("told wrong", x.row(1, 6), 0);
        Due.is("age", x.row(1, 9), 60);
        x.anew(0);
        Due.is("lost", x.row(0, 12), 8);
        Due.is("anew", x.row(0, 13), 1);
        Due.is("age", x.row(0, 9), 0);
        x.rate(0, 133);
        Due.is("rate", x.row(0, 8), 133);
    }

    private static void table() {
        DriftingLevels x = Sample.withFourWrong();
        x.ask(0, 0);
        x.ask(0, 1);
        x.ask(0, 1);
        Due.is("table(0, 0)", x.table(0, 0), 1);
        Due.is("table(0, 1)", x.table(0, 1), 2);
        Due.is("table(1, 0)", x.table(1, 0), 0);
        Due.is("table(2, 2)", x.table(2, 2), 0);
        Due.invalid("table(-1, 0)", x.table(-1, 0));
        Due.invalid("table(3, 0)", x.table(3, 0));
        Due.invalid("table(0, -1)", x.table(0, -1));
        Due.invalid("table(0, 3)", x.table(0, 3));
    }
}
