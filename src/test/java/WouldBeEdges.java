/** The sentences of the promises 15 to 21, but for heads and ranges. */
final class WouldBeEdges {
    private WouldBeEdges() {
    }

    static void all() {
        wrongIn();
        wrongNow();
        wrongWithin300();
        wrongWithAges();
        rightFor();
        rightNotNow();
        rightWithin300();
        safeAge();
        safeAgeOfTheLastDay();
        safeAgeIsTheGreatest();
        safeAgeNone();
        beyondTheLastDay();
        worst();
        worstOfEqual();
        mean();
        meanOfFew();
        share();
        shareOfNothing();
        countDays();
        countWrong();
        countThresholds();
        countGuards();
        countWritings();
        countAsked();
        countLevels();
        countKept();
    }

    private static void wrongIn() {
        Doc.quote("Promise 15", "Tells in how many days a cell of a row is told wrong for the first time,"
            + " if nothing else is done");
        DriftingLevels x = new DriftingLevels();
        x.rate(5, 1);
        // By 1 a day the cell of 107 alone comes to 117.
        Sample.lower(x, 5, 117);
        Due.is("ten days", x.wrongIn(5), 10);
        x.days(9);
        Due.is("one day", x.wrongIn(5), 1);
        x.days(1);
        Due.is("cells told wrong", x.row(5, 6), 1);
        DriftingLevels y = new DriftingLevels();
        Due.is("of all rows", y.wrongIn(0), 139);
        Due.is("the state stays", y.count(0), 0);
        Due.is("by the last cell", byTheLastCell().wrongIn(1), 5);
    }

    /** In the row 1 the last cell alone, of 99, is of the level 0; by 1 a day it comes to 104 in five days. */
    private static DriftingLevels byTheLastCell() {
        DriftingLevels x = new DriftingLevels();
        x.rate(1, 1);
        for (int cell = 0; cell < 7; cell++) {
            x.write(1, cell, 1);
        }
        Sample.lower(x, 1, 104);
        return x;
    }

    private static void wrongNow() {
        Doc.quote("Promise 15", "Returns how many, 0 if one is now;");
        DriftingLevels x = new DriftingLevels();
        Sample.lower(x, 0, 107);
        Due.is("one is", x.wrongIn(0), 0);
        DriftingLevels y = new DriftingLevels();
        Sample.lower(y, 0, 108);
        Due.is("none is", y.wrongIn(0), 1);
        DriftingLevels z = new DriftingLevels();
        Sample.lower(z, 0, 90);
        z.set(2, 1);
        // Written anew at the end of the day, all are told right.
        Due.is("all are, and none in a day", z.wrongIn(0), 0);
    }

    /** By 1 a day, the cell of 107 comes to 407 in 300 days, and to 408 in 301. */
    private static void wrongWithin300() {
        Doc.quote("Promise 15", "NOT_FOUND if that is not within 300.");
        DriftingLevels x = new DriftingLevels();
        x.rate(0, 1);
        x.fail(0, 0, 314);
        Due.is("407 in 300 days", x.wrongIn(0), 300);
        x.mend(0, 0);
        x.fail(0, 0, 316);
        Due.is("408 in 301 days", x.wrongIn(0), Calls.NOT_FOUND);
        x.days(1);
        Due.is("in 300 days", x.wrongIn(0), 300);
    }

    private static void wrongWithAges() {
        Doc.quote("Promise 15", "(as it is when a day has ended, and rows are written anew by age,"
            + " if setting 2 is above 0).");
        DriftingLevels x = new DriftingLevels();
        x.rate(5, 1);
        // By 1 a day the cell of 107 alone comes to 117 in ten days.
        Sample.lower(x, 5, 117);
        x.set(2, 11);
        Due.is("a day ahead of the age", x.wrongIn(5), 10);
        x.set(2, 10);
        Due.is("lost on that day, and told right again", x.wrongIn(5), Calls.NOT_FOUND);
        Due.is("levels lost on that day", x.days(10), 1);
        DriftingLevels y = withOneOfTheLevel0();
        Sample.lower(y, 0, 105);
        Due.is("90 comes to 105", y.wrongIn(0), 15);
        y.set(2, 10);
        Due.is("90 comes to 100, is written with 101, and comes to 105", y.wrongIn(0), 14);
        y.set(2, 0);
        Due.is("never written", y.wrongIn(0), 15);
    }

    /** In the row 0, by 1 a day: the first cell, of 90; what is written into it next is 101, and then 91. */
    private static DriftingLevels withOneOfTheLevel0() {
        DriftingLevels x = new DriftingLevels();
        x.rate(0, 1);
        for (int cell = 1; cell < 8; cell++) {
            x.write(0, cell, 1);
        }
        return x;
    }

    private static void rightFor() {
        Doc.quote("Promise 16", "Tells in how many days the own thresholds of a row are right no more, if nothing else"
            + " is done, and no row was written anew by age.");
        DriftingLevels x = new DriftingLevels();
        x.rate(3, 1);
        x.set(1, 300);
        // 400 apart, and 299 in 101 days
        Due.is("rightFor(3)", x.rightFor(3), 101);
        x.set(2, 50);
        Due.is("no row is written anew", x.rightFor(3), 101);
        Due.is("the setting stays", x.count(22), 50);
        Due.is("the day stays", x.count(0), 0);
        DriftingLevels y = new DriftingLevels();
        y.rate(3, 1);
        y.fail(3, 0, 460);
        y.fail(3, 2, 549);
        Due.is("the guard 1 is in the middle", y.rightFor(3), Calls.NOT_FOUND);
        y.set(0, 510);
        // 500 to 509 are 40 apart from 549, and 510 is not.
        Due.is("the upper ones", y.rightFor(3), 10);
    }

    private static void rightNotNow() {
        Doc.quote("Promise 16", "Returns how many, 0 if they are not now;");
        DriftingLevels x = new DriftingLevels();
        x.fail(3, 0, 461);
        Due.is("39 apart", x.rightFor(3), 0);
        x.mend(3, 0);
        x.fail(3, 0, 460);
        x.set(0, 499);
        Due.is("39 apart in a day", x.rightFor(3), 1);
        DriftingLevels y = new DriftingLevels();
        y.fail(3, 1, 0);
        y.set(2, 1);
        Due.is("not now, whatever the age is", y.rightFor(3), 0);
    }

    /** By 1 a day: from 161 the guard 0 comes to 461 in 300 days, and from 160 in 301. */
    private static void rightWithin300() {
        Doc.quote("Promise 16", "NOT_FOUND if that is not within 300.");
        DriftingLevels x = new DriftingLevels();
        x.rate(0, 1);
        x.days(60);
        Due.is("in 301 days", x.rightFor(0), Calls.NOT_FOUND);
        x.days(1);
        Due.is("in 300 days", x.rightFor(0), 300);
        x.days(1);
        Due.is("in 299 days", x.rightFor(0), 299);
    }

    private static void safeAge() {
        Doc.quote("Promise 17", "Finds the greatest age, 1 to 60, with which no level would be lost in the next"
            + " 60 days, if it was setting 2 from now on, and nothing else was done.", "Returns the age;");
        DriftingLevels x = new DriftingLevels();
        Due.is("the greatest of all", x.safeAge(), 60);
        x.set(2, 5);
        Due.is("whatever setting 2 is", x.safeAge(), 60);
        Due.is("setting 2 stays", x.count(22), 5);
        Due.is("the day stays", x.count(0), 0);
        DriftingLevels y = new DriftingLevels();
        // The cell of 107 holds 114 in a day and 121 in two, and one written with 110 holds 117 in a day.
        Sample.lower(y, 0, 118);
        Due.is("the least of all", y.safeAge(), 1);
        DriftingLevels z = Sample.notRight(0, 1);
        // By 300 the cell of 107 is told right with 298 in 36 days, and wrong with 302 in 37.
        Due.is("one between", z.safeAge(), 36);
        z.rate(5, 200);
        // Its guards are 44 apart in ten days, and 36 in eleven; then it is told by the row 4.
        Due.is("of all rows the least", z.safeAge(), 10);
    }

    /** By 1 a day, the cell of 107 comes to 167 in 60 days; what is written in that time is 108 at most. */
    private static void safeAgeOfTheLastDay() {
        Doc.quote("Promise 17", "no level would be lost in the next 60 days");
        DriftingLevels x = new DriftingLevels();
        x.rate(0, 1);
        Sample.lower(x, 0, 167);
        Due.is("one is lost on the day 60", x.safeAge(), 59);
        DriftingLevels y = new DriftingLevels();
        y.rate(0, 1);
        Sample.lower(y, 0, 168);
        Due.is("none is lost on the day 60", y.safeAge(), 60);
        y.days(59);
        Due.is("one would be lost on the day 61", y.safeAge(), 60);
        y.days(1);
        Due.is("one is lost on the first day", y.safeAge(), Calls.NOT_FOUND);
    }

    private static void safeAgeIsTheGreatest() {
        Doc.quote("Promise 17", "Finds the greatest age, 1 to 60");
        // Lost by 131: with the age 30 what was written with 101, on the day 60; with 41 what was 90 at first.
        DriftingLevels x = withOneOfTheLevel0();
        Sample.lower(x, 0, 131);
        Due.is("safeAge()", x.safeAge(), 40);
        int[] ages = {29, 30, 31, 40, 41};
        int[] lost = {0, 1, 0, 0, 1};
        for (int i = 0; i < ages.length; i++) {
            x.set(2, ages[i]);
            Due.is("lost with the age " + ages[i], x.days(60), lost[i]);
            x.undo();
        }
    }

    private static void safeAgeNone() {
        Doc.quote("Promise 17", "NOT_FOUND if there is none.");
        Due.is("lost with each age", Sample.withFourWrong().safeAge(), Calls.NOT_FOUND);
        DriftingLevels x = new DriftingLevels();
        Sample.lower(x, 0, 114);
        Due.is("lost in a day", x.safeAge(), Calls.NOT_FOUND);
        Due.is("none is lost now", x.row(0, 6), 0);
    }

    /** The day 9999 is a limit of days() alone; by then all cells and guards have come to the middle. */
    private static void beyondTheLastDay() {
        DriftingLevels x = Sample.onDay(9999);
        for (int row = 0; row < 6; row++) {
            x.anew(row);
            x.fill(row, 0);
        }
        Doc.quote("Promise 16", "if nothing else is done");
        Due.is("apart until the day 10138", x.rightFor(0), 139);
        x.rate(0, 1);
        Sample.lower(x, 0, 118);
        Doc.quote("Promise 15", "if nothing else is done");
        // The cells of the row 0 were written three times; the highest holds 108.
        Due.is("108 comes to 118", x.wrongIn(0), 10);
        Doc.quote("Promise 17", "in the next 60 days");
        Due.is("108 and what is written later", x.safeAge(), 7);
    }

    private static void worst() {
        Doc.quote("Promise 18", "Returns the row at a rank by the cells that are told wrong: the most first",
            "Returns the row;");
        DriftingLevels x = new DriftingLevels();
        // Told wrong are of the row 5 all, of the row 1 seven, of the row 3 one; of the others none.
        Sample.lower(x, 5, 90);
        Sample.lower(x, 1, 93);
        Sample.lower(x, 3, 108);
        Due.is("of the row 5", x.row(5, 6), 8);
        Due.is("of the row 1", x.row(1, 6), 7);
        Due.is("of the row 3", x.row(3, 6), 1);
        int[] rows = {5, 1, 3, 0, 2, 4};
        for (int rank = 0; rank < 6; rank++) {
            Due.is("worst(" + rank + ")", x.worst(rank), rows[rank]);
        }
    }

    private static void worstOfEqual() {
        Doc.quote("Promise 18", "of several the lowest one.");
        DriftingLevels x = new DriftingLevels();
        for (int rank = 0; rank < 6; rank++) {
            Due.is("all are equal", x.worst(rank), rank);
        }
        Sample.lower(x, 2, 90);
        Sample.lower(x, 4, 90);
        int[] rows = {2, 4, 0, 1, 3, 5};
        for (int rank = 0; rank < 6; rank++) {
            Due.is("two are, and four", x.worst(rank), rows[rank]);
        }
    }

    /** 48 cells of the level 0 in the middle 700 are 600 from their aim each. */
    private static void mean() {
        Doc.quote("Promise 19", "Returns the mean distance of the values of all cells from the aims of their levels,"
            + " as a float: these together, as a float, divided by 48, as a float.", "Returns the bits of the float.");
        DriftingLevels x = new DriftingLevels();
        Due.is("257 / 48", x.mean(), Float.floatToIntBits(257f / 48f));
        x.set(0, 700);
        for (int row = 0; row < 6; row++) {
            x.rate(row, 200);
        }
        x.days(99);
        Due.is("600", x.mean(), Float.floatToIntBits(600f));
        x.write(0, 0, 2);
        Due.is("47 * 600 + 1, by 48", x.mean(), Float.floatToIntBits(28201f / 48f));
    }

    /** All cells of the level 1 come to the middle, which is their aim. */
    private static void meanOfFew() {
        Doc.quote("Promise 19", "these together, as a float, divided by 48, as a float.");
        DriftingLevels x = new DriftingLevels();
        for (int row = 0; row < 6; row++) {
            x.fill(row, 3280);
        }
        x.days(10);
        Due.is("0", x.mean(), 0);
        Due.is("write(0, 0, 1)", x.write(0, 0, 1), 491);
        for (int far = 9; far >= 1; far--) {
            Due.is(far + " / 48", x.mean(), Float.floatToIntBits(far / 48f));
            x.days(1);
        }
        Due.is("0", x.mean(), 0);
        for (int far = 1; far <= 128; far = 2 * far) {
            x.set(0, 500 + far);
            x.days(99);
            Due.is(far + " of each cell", x.mean(), Float.floatToIntBits(far));
        }
    }

    private static void share() {
        Doc.quote("Promise 20", "Returns the share of what was told right by ask(), as a float: this, as a float,"
            + " divided by how often it was asked, as a float.", "Returns the bits of the float;");
        DriftingLevels x = Sample.withFourWrong();
        x.ask(0, 1);
        Due.is("0 / 1", x.share(), 0);
        x.ask(0, 2);
        Due.is("0 / 2", x.share(), 0);
        x.ask(0, 0);
        Due.is("1 / 3", x.share(), Float.floatToIntBits(1f / 3f));
        x.write(1, 0, 1);
        x.ask(1, 0);
        Due.is("2 / 4", x.share(), Float.floatToIntBits(0.5f));
        x.write(1, 1, 2);
        x.ask(1, 1);
        Due.is("3 / 5", x.share(), Float.floatToIntBits(3f / 5f));
        DriftingLevels y = new DriftingLevels();
        y.ask(0, 0);
        Due.is("1 / 1", y.share(), Float.floatToIntBits(1f));
        y.ask(0, 0);
        Due.is("2 / 2", y.share(), Float.floatToIntBits(1f));
        Sample.lower(y, 1, 90);
        y.ask(1, 0);
        for (int asked = 4; asked <= 32; asked++) {
            y.ask(0, 0);
            Due.is("all but one of " + asked, y.share(), Float.floatToIntBits((asked - 1f) / asked));
        }
    }

    private static void shareOfNothing() {
        Doc.quote("Promise 20", "NOT_FOUND if nothing was asked.");
        DriftingLevels x = new DriftingLevels();
        Due.is("at first", x.share(), Calls.NOT_FOUND);
        x.ask(0, 8);
        Due.is("what is refused is not asked", x.share(), Calls.NOT_FOUND);
        x.ask(0, 0);
        x.undo();
        Due.is("what was undone was not asked", x.share(), Calls.NOT_FOUND);
    }

    private static void countDays() {
        Doc.quote("Promise 21", "Returns a number.", "0: the day of now;", "Returns the number;");
        Due.is("at first", new DriftingLevels().count(0), 0);
        Due.is("the last day", Sample.onDay(9999).count(0), 9999);
    }

    private static void countWrong() {
        DriftingLevels x = new DriftingLevels();
        Doc.quote("Promise 21", "1: cells that are told wrong;");
        Due.is("none", x.count(1), 0);
        Sample.lower(x, 0, 107);
        Due.is("one", x.count(1), 1);
        Sample.lower(x, 5, 90);
        Due.is("of two rows", x.count(1), 9);
        Doc.quote("Promise 21", "2: rows with such cells, as a set;");
        Due.is("none", new DriftingLevels().count(2), 0);
        Due.is("the rows 0 and 5", x.count(2), 33);
    }

    private static void countThresholds() {
        DriftingLevels x = Sample.notRight(0, 3, 4, 5);
        Doc.quote("Promise 21", "3: rows whose own thresholds are right, as a set;");
        Due.is("1 and 2", x.count(3), 6);
        Due.is("all", new DriftingLevels().count(3), 63);
        Due.is("none", Sample.notRight(0, 1, 2, 3, 4, 5).count(3), 0);
        Doc.quote("Promise 21", "4: rows that are told by the rows beside them, as a set;");
        Due.is("0 and 3", x.count(4), 9);
        Due.is("none", new DriftingLevels().count(4), 0);
        Doc.quote("Promise 21", "5: rows that are told by 300 and 700, as a set;");
        Due.is("4 and 5", x.count(5), 48);
        Due.is("none, though all have 300 and 700", new DriftingLevels().count(5), 0);
        Due.is("all", Sample.notRight(0, 1, 2, 3, 4, 5).count(5), 63);
    }

    private static void countGuards() {
        Doc.quote("Promise 21", "6: guards that have failed;");
        DriftingLevels x = new DriftingLevels();
        Due.is("none", x.count(6), 0);
        for (int place = 0; place < 18; place++) {
            x.fail(place / 3, place % 3, 500);
        }
        Due.is("all", x.count(6), 18);
        x.mend(5, 2);
        Due.is("all but one", x.count(6), 17);
        Doc.quote("Promise 21", "7: levels that were lost so far;");
        DriftingLevels y = new DriftingLevels();
        Sample.lower(y, 0, 107);
        Sample.lower(y, 5, 90);
        Due.is("none yet", y.count(7), 0);
        y.anew(0);
        y.anew(5);
        Due.is("of two rows", y.count(7), 9);
        y.anew(5);
        y.fill(5, 0);
        Due.is("no more by fill", y.count(7), 9);
    }

    private static void countWritings() {
        Doc.quote("Promise 21", "8: how often cells were written so far, by rows written anew too"
            + " (those at first not);");
        DriftingLevels x = new DriftingLevels();
        Due.is("at first", x.count(8), 0);
        x.write(0, 0, 0);
        Due.is("by write", x.count(8), 1);
        x.fill(5, 0);
        Due.is("by fill", x.count(8), 9);
        x.anew(0);
        Due.is("by anew", x.count(8), 17);
        x.set(2, 1);
        x.days(2);
        Due.is("by age", x.count(8), 17 + 96);
        Doc.quote("Promise 21", "9: how often rows were written anew so far;");
        Due.is("by anew and by age", x.count(9), 13);
        Due.is("none", new DriftingLevels().count(9), 0);
    }

    private static void countAsked() {
        DriftingLevels x = Sample.withFourWrong();
        Doc.quote("Promise 21", "10: how often it was asked so far;");
        Due.is("never", x.count(10), 0);
        Due.is("pairs of none", x.count(11), 0);
        x.ask(0, 0);
        x.ask(0, 0);
        x.ask(0, 1);
        Due.is("three times", x.count(10), 3);
        Doc.quote("Promise 21", "11: pairs of a level and what it was told as that came in the table so far,"
            + " each counted once;");
        Due.is("two pairs", x.count(11), 2);
        x.write(1, 0, 2);
        x.ask(1, 0);
        x.write(1, 0, 1);
        x.ask(1, 0);
        Due.is("four pairs", x.count(11), 4);
        Due.is("five times", x.count(10), 5);
    }

    private static void countLevels() {
        DriftingLevels x = new DriftingLevels();
        for (int row = 0; row < 6; row++) {
            x.fill(row, 6560);
        }
        Doc.quote("Promise 21", "14: of the level 2;");
        Due.is("all", x.count(14), 48);
        x.write(0, 0, 1);
        x.write(5, 7, 1);
        Due.is("all but two", x.count(14), 46);
        Doc.quote("Promise 21", "13: of the level 1;");
        Due.is("two", x.count(13), 2);
        Due.is("none", new DriftingLevels().count(13), 0);
        Doc.quote("Promise 21", "12: cells of the level 0;");
        Due.is("none", x.count(12), 0);
        Due.is("all", new DriftingLevels().count(12), 48);
    }

    private static void countKept() {
        DriftingLevels x = Sample.withText("a0;");
        Doc.quote("Promise 21", "15: states in the history;");
        Due.is("none", x.count(15), 0);
        for (int i = 1; i <= 5; i++) {
            x.ask(0, 0);
            Due.is("states", x.count(15), Math.min(i, 4));
        }
        Doc.quote("Promise 21", "16: the length of the text;");
        Due.is("three", x.count(16), 3);
        Due.is("none", new DriftingLevels().count(16), 0);
        Doc.quote("Promise 21", "20 to 22: the settings 0 to 2");
        x.set(0, 300);
        x.set(1, 300);
        x.set(2, 99);
        Due.is("count(20)", x.count(20), 300);
        Due.is("count(21)", x.count(21), 300);
        Due.is("count(22)", x.count(22), 99);
    }
}
