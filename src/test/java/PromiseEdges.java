/** The sentences of the promises 1 to 14, but for heads and ranges. */
final class PromiseEdges {
    private PromiseEdges() {
    }

    static void all() {
        newObject();
        write();
        fill();
        fillReturns();
        anew();
        ask();
        fail();
        failTwice();
        mend();
        mendNothing();
        rate();
        days();
        lastDay();
        set();
        cell();
        cellNearer();
        guard();
        row();
        rowWrong();
        rowWords();
        rowCounts();
        table();
    }

    private static void newObject() {
        Doc.quote("Promise 1", "Creates rows of the level 0, each with the rate 20, on the day 0.");
        DriftingLevels x = new DriftingLevels();
        for (int row = 0; row < 6; row++) {
            Due.is("word of the levels", x.row(row, 11), 0);
            Due.is("rate", x.row(row, 8), 20);
        }
        Due.is("day", x.count(0), 0);
        Due.is("states", x.count(15), 0);
        x.rate(0, 1);
        Due.is("rate of another object", new DriftingLevels().row(0, 8), 20);
    }

    private static void write() {
        Doc.quote("Promise 2", "Writes a level into a cell.");
        DriftingLevels x = new DriftingLevels();
        x.write(5, 7, 2);
        Due.is("its level", x.cell(5, 7, 0), 2);
        Due.is("cells of the level 2", x.count(14), 1);
        x.write(0, 0, 1);
        Due.is("its level", x.cell(0, 0, 0), 1);
        Due.is("cells of the level 1", x.count(13), 1);
        x.days(5);
        Doc.quote("Promise 2", "Returns its value then;");
        Due.is("write(0, 0, 1)", x.write(0, 0, 1), 491);
        Due.is("write(0, 0, 2)", x.write(0, 0, 2), 902);
        Due.is("write(5, 7, 2)", x.write(5, 7, 2), 908);
        Due.is("write(5, 7, 0)", x.write(5, 7, 0), 98);
        Due.is("its value", x.cell(5, 7, 1), 98);
    }

    private static void fill() {
        Doc.quote("Promise 3", "Writes levels into all cells of a row, by their numbers.",
            "in the system of threes, the cell 0 is its last figure, the cell 1 the one before, and so on");
        int figure = 1;
        for (int cell = 0; cell < 8; cell++) {
            DriftingLevels x = new DriftingLevels();
            x.fill(3, 2 * figure);
            Due.is("the one cell of the level 2", x.cell(3, cell, 0), 2);
            Due.is("cells of the level 2", x.count(14), 1);
            Due.is("cells of the level 0", x.count(12), 47);
            x.fill(3, 6560 - figure);
            Due.is("the one cell of the level 1", x.cell(3, cell, 0), 1);
            Due.is("cells of the level 1", x.count(13), 1);
            Due.is("cells of the level 2", x.count(14), 7);
            Due.is("each is written", x.cell(3, 7 - cell, 5), 3);
            figure = 3 * figure;
        }
        DriftingLevels y = new DriftingLevels();
        y.fill(0, 6560);
        Due.is("all of one row", y.count(14), 8);
        y.fill(0, 0);
        Due.is("none", y.count(14), 0);
    }

    private static void fillReturns() {
        Doc.quote("Promise 3", "Returns the word that the row was told as before;");
        DriftingLevels x = new DriftingLevels();
        Due.is("at first", x.fill(1, 6560), 0);
        Due.is("after the greatest", x.fill(1, 0), 6560);
        Due.is("after the least", x.fill(1, 0), 0);
        DriftingLevels y = Sample.withFourWrong();
        Due.is("told, not the levels", y.fill(0, 1), 984);
        Due.is("no level is lost by it", y.count(7), 0);
    }

    /** By 90, all cells of the row 0 are told 1; by 91 all but the one of 90. */
    private static void anew() {
        Doc.quote("Promise 4", "Writes a row anew.", "Returns how many levels are lost by that;");
        Due.is("none", new DriftingLevels().anew(0), 0);
        DriftingLevels all = new DriftingLevels();
        Sample.lower(all, 0, 90);
        Due.is("all", all.anew(0), 8);
        Due.is("the word then", all.row(0, 11), 3280);
        DriftingLevels most = new DriftingLevels();
        Sample.lower(most, 0, 91);
        Due.is("all but one", most.anew(0), 7);
        DriftingLevels one = new DriftingLevels();
        Sample.lower(one, 0, 107);
        Due.is("one", one.anew(0), 1);
        Due.is("the word then", one.row(0, 11), 243);
        Due.is("times", one.row(0, 13), 1);
        Due.is("times of another", one.row(1, 13), 0);
    }

    private static void ask() {
        Doc.quote("Promise 5", "Asks what a cell is told as; this is counted in the table.",
            "Returns what it is told as;");
        DriftingLevels x = Sample.withFourWrong();
        Due.is("told 0", x.ask(0, 0), 0);
        Due.is("told 1, and 0 is its level", x.ask(0, 1), 1);
        x.write(5, 7, 2);
        Due.is("told 2", x.ask(5, 7), 2);
        Due.is("asked", x.count(10), 3);
        Due.is("table(0, 0)", x.table(0, 0), 1);
        Due.is("table(0, 1)", x.table(0, 1), 1);
        Due.is("table(2, 2)", x.table(2, 2), 1);
        x.ask(6, 0);
        Due.is("one outside is not counted", x.count(10), 3);
    }

    private static void fail() {
        Doc.quote("Promise 6", "Lets a guard fail, at a value.", "Returns the value that it had;");
        DriftingLevels x = new DriftingLevels();
        Due.is("fail(0, 0, 0)", x.fail(0, 0, 0), 100);
        Due.is("its value", x.guard(0, 0, 0), 0);
        Due.is("fail(5, 2, 999)", x.fail(5, 2, 999), 900);
        Due.is("its value", x.guard(5, 2, 0), 999);
        x.days(1);
        Due.is("a guard that has drifted", x.fail(5, 0, 1), 108);
        x.mend(0, 0);
        Due.is("a guard that was mended", x.fail(0, 0, 500), 0);
    }

    private static void failTwice() {
        Doc.quote("Promise 6", "NOT_POSSIBLE if it has failed.");
        DriftingLevels x = new DriftingLevels();
        x.fail(0, 0, 9);
        Due.is("once more", x.fail(0, 0, 10), Calls.NOT_POSSIBLE);
        Due.is("at the same value", x.fail(0, 0, 9), Calls.NOT_POSSIBLE);
        Due.is("another guard", x.fail(0, 1, 9), 500);
        Due.is("another row", x.fail(1, 0, 9), 100);
        x.anew(0);
        Due.is("written anew it has failed still", x.fail(0, 0, 9), Calls.NOT_POSSIBLE);
        x.mend(0, 0);
        Due.is("mended", x.fail(0, 0, 9), 9);
    }

    private static void mend() {
        Doc.quote("Promise 7", "Mends a guard: it has failed no more, and drifts on from the value that it has, until"
            + " the guards of its row are written.", "Returns its value;");
        DriftingLevels x = new DriftingLevels();
        x.fail(5, 2, 999);
        x.fail(0, 0, 0);
        Due.is("mend(5, 2)", x.mend(5, 2), 999);
        Due.is("mend(0, 0)", x.mend(0, 0), 0);
        Due.is("failed guards", x.count(6), 0);
        Due.is("its value stays at first", x.guard(5, 2, 0), 999);
        x.days(1);
        Due.is("499 * 20 / 1000", x.guard(5, 2, 0), 990);
        Due.is("500 * 20 / 1000", x.guard(0, 0, 0), 10);
        x.anew(5);
        Due.is("written", x.guard(5, 2, 0), 900);
        Due.is("that of another row is not", x.guard(0, 0, 0), 10);
    }

    private static void mendNothing() {
        Doc.quote("Promise 7", "NOT_POSSIBLE if it has not failed.");
        DriftingLevels x = new DriftingLevels();
        Due.is("one that never failed", x.mend(0, 0), Calls.NOT_POSSIBLE);
        x.fail(0, 0, 9);
        Due.is("one beside it", x.mend(0, 1), Calls.NOT_POSSIBLE);
        Due.is("one below it", x.mend(1, 0), Calls.NOT_POSSIBLE);
        Due.is("that one", x.mend(0, 0), 9);
        Due.is("twice", x.mend(0, 0), Calls.NOT_POSSIBLE);
    }

    private static void rate() {
        Doc.quote("Promise 8", "Changes the rate of a row.", "Returns the previous one;");
        DriftingLevels x = new DriftingLevels();
        Due.is("the first one", x.rate(5, 1), 20);
        Due.is("the least", x.rate(5, 200), 1);
        Due.is("the greatest", x.rate(5, 200), 200);
        Due.is("row(5, 8)", x.row(5, 8), 200);
        Due.is("row(4, 8)", x.row(4, 8), 20);
        x.days(1);
        Doc.quote("Promise 8", "in thousandths");
        Due.is("400 * 200 / 1000", x.guard(5, 0, 0), 180);
        Due.is("400 * 20 / 1000", x.guard(4, 0, 0), 108);
        x.rate(0, 1);
        x.days(1);
        Due.is("392 * 1 / 1000, but 1 at least", x.guard(0, 0, 0), 109);
    }

    private static void days() {
        Doc.quote("Promise 9", "Lets days end.");
        DriftingLevels x = new DriftingLevels();
        x.days(1);
        Due.is("one", x.count(0), 1);
        x.days(99);
        Due.is("99 more", x.count(0), 100);
        Doc.quote("Promise 9", "Returns how many levels are lost in them;");
        Due.is("none", x.days(1), 0);
        DriftingLevels y = new DriftingLevels();
        Sample.lower(y, 0, 90);
        Sample.lower(y, 3, 90);
        Due.is("not without writing", y.days(1), 0);
        y.set(2, 2);
        Due.is("of two rows", y.days(1), 16);
        Due.is("lost already", y.days(9), 0);
        Due.is("all in all", y.count(7), 16);
    }

    private static void lastDay() {
        Doc.quote("Promise 9", "LIMIT_REACHED if now would be above 9999.");
        DriftingLevels x = Sample.onDay(9900);
        Due.is("9999 with 99 days", x.days(99), 0);
        Due.is("the day", x.count(0), 9999);
        Due.is("10000", x.days(1), Calls.LIMIT);
        Due.is("10098", x.days(99), Calls.LIMIT);
        Due.is("the day", x.count(0), 9999);
        DriftingLevels y = Sample.onDay(9901);
        Due.is("10000 with 99 days", y.days(99), Calls.LIMIT);
        Due.is("the day", y.count(0), 9901);
        Due.is("9999 with 98 days", y.days(98), 0);
        y.undo();
        Due.is("after undo()", y.days(98), 0);
    }

    private static void set() {
        Doc.quote("Promise 10", "Sets a setting.", "Returns what it was;");
        DriftingLevels x = new DriftingLevels();
        int[][] runs = {{0, 500, 300, 700}, {1, 40, 1, 300}, {2, 0, 99, 0}};
        for (int[] run : runs) {
            for (int i = 2; i < run.length; i++) {
                Due.is("set(" + run[0] + ", " + run[i] + ")", x.set(run[0], run[i]), run[i - 1]);
                Due.is("count of it", x.count(20 + run[0]), run[i]);
            }
        }
        Due.is("the first stays", x.count(20), 700);
    }

    private static void cell() {
        DriftingLevels x = Sample.withFourWrong();
        x.set(1, 201);
        x.days(3);
        x.write(0, 7, 2);
        x.days(1);
        // The own thresholds of the row 0, 100 and some 540, are not right now: those of the row 1 tell.
        Doc.quote("Promise 11", "Returns something of a cell.", "Returns the number;", "0: its level;");
        Due.is("level", x.cell(0, 7, 0), 2);
        Doc.quote("Promise 11", "1: its value;");
        // 37 * 7 + 11 = 270 is 18 over by 21, and 408 * 20 / 1000 = 8.
        Due.is("value", x.cell(0, 7, 1), 900);
        Doc.quote("Promise 11", "2: what it is told as;");
        Due.is("told as 2", x.cell(0, 7, 2), 2);
        Due.is("told as 0", x.cell(0, 5, 2), 0);
        Doc.quote("Promise 11", "3: what it would be told as by the own thresholds of its row, right or not;");
        Due.is("by those that are not right", x.cell(0, 5, 3), 1);
        Due.is("by those that are right", x.cell(1, 5, 3), 0);
        Doc.quote("Promise 11", "5: how often it was written;");
        Due.is("twice", x.cell(0, 7, 5), 2);
        Due.is("once", x.cell(0, 5, 5), 1);
        Doc.quote("Promise 11", "7: days since it was written");
        Due.is("days", x.cell(0, 7, 7), 1);
        Due.is("days", x.cell(0, 5, 7), 4);
        x.write(0, 5, 0);
        Due.is("days", x.cell(0, 5, 7), 0);
        cellByFixed();
    }

    /** By 1 a day, 90 becomes 299 in 209 days, and 896 becomes 700 in 196. */
    private static void cellByFixed() {
        Doc.quote("Promise 11", "4: by 300 and 700;");
        DriftingLevels x = new DriftingLevels();
        x.rate(0, 1);
        x.write(0, 1, 2);
        x.days(98);
        x.days(98);
        Due.is("700", x.cell(0, 1, 1), 700);
        Due.is("by 700", x.cell(0, 1, 4), 2);
        x.days(1);
        Due.is("699 by 700", x.cell(0, 1, 4), 1);
        x.days(12);
        Due.is("299", x.cell(0, 0, 1), 299);
        Due.is("by 300", x.cell(0, 0, 4), 0);
        x.days(1);
        Due.is("300 by 300", x.cell(0, 0, 4), 1);
    }

    private static void cellNearer() {
        Doc.quote("Promise 11", "6: how far its value is from the nearer one of the thresholds by which it is told;");
        DriftingLevels x = new DriftingLevels();
        Due.is("90 from 300", x.cell(0, 0, 6), 210);
        x.write(0, 0, 1);
        Due.is("501 from 700", x.cell(0, 0, 6), 199);
        x.write(0, 1, 1);
        Due.is("496 from 300", x.cell(0, 1, 6), 196);
        x.write(0, 2, 2);
        Due.is("891 from 700", x.cell(0, 2, 6), 191);
        x.fail(0, 1, 502);
        Due.is("501 from 701, and from 301", x.cell(0, 0, 6), 200);
        x.mend(0, 1);
        x.fail(0, 1, 102);
        Due.is("501 from 700 of the row 1", x.cell(0, 0, 6), 199);
        x.set(1, 1);
        Due.is("501 from 501", x.cell(0, 0, 6), 0);
        Due.is("496 from 501", x.cell(0, 1, 6), 5);
    }

    private static void guard() {
        DriftingLevels x = new DriftingLevels();
        x.fail(5, 2, 0);
        x.fail(4, 0, 999);
        x.mend(4, 0);
        Doc.quote("Promise 12", "Returns something of a guard.", "0: its value;", "Returns the number;");
        Due.is("at 0", x.guard(5, 2, 0), 0);
        Due.is("at 999", x.guard(4, 0, 0), 999);
        Due.is("at its aim", x.guard(5, 1, 0), 500);
        Doc.quote("Promise 12", "1: 1 if it has failed, otherwise 0");
        Due.is("has failed", x.guard(5, 2, 1), 1);
        Due.is("has failed no more", x.guard(4, 0, 1), 0);
        Due.is("never failed", x.guard(5, 1, 1), 0);
    }

    private static void row() {
        DriftingLevels x = new DriftingLevels();
        x.fail(5, 0, 461);
        x.rate(5, 200);
        x.days(2);
        Doc.quote("Promise 13", "Returns something of a row.", "0 and 1: its own thresholds;", "Returns the number;");
        Due.is("lower", x.row(5, 0), 480);
        // 900, 820, 756
        Due.is("upper", x.row(5, 1), 628);
        Doc.quote("Promise 13", "2: 1 if these are right, otherwise 0;");
        Due.is("39 apart", x.row(5, 2), 0);
        Due.is("beside", x.row(4, 2), 1);
        Doc.quote("Promise 13", "3: the source of those by which it is told;");
        Due.is("by the row 4", x.row(5, 3), 1);
        Due.is("by its own", x.row(4, 3), 0);
        Due.is("by 300 and 700", Sample.notRight(5, 4).row(5, 3), 2);
        Doc.quote("Promise 13", "4 and 5: these;");
        // 115 and 885
        Due.is("lower", x.row(5, 4), 307);
        Due.is("upper", x.row(5, 5), 692);
        Doc.quote("Promise 13", "8: its rate;");
        Due.is("rate", x.row(5, 8), 200);
        Doc.quote("Promise 13", "9: its age;");
        Due.is("age", x.row(5, 9), 2);
        x.anew(5);
        Due.is("age", x.row(5, 9), 0);
    }

    private static void rowWrong() {
        DriftingLevels x = new DriftingLevels();
        x.days(60);
        Doc.quote("Promise 13", "6: cells that are told wrong;");
        Due.is("none by its own", x.row(0, 6), 0);
        x.fail(0, 1, 0);
        x.fail(1, 1, 0);
        Due.is("all by 300 and 700", x.row(0, 6), 8);
        Doc.quote("Promise 13", "7: cells that would be told wrong by 300 and 700;");
        Due.is("all", x.row(3, 7), 8);
        Due.is("though told right", x.row(3, 6), 0);
        x.write(3, 4, 0);
        Due.is("all but one", x.row(3, 7), 7);
        x.fill(3, 1234);
        Due.is("none", x.row(3, 7), 0);
    }

    private static void rowWords() {
        DriftingLevels x = Sample.withFourWrong();
        Doc.quote("Promise 13", "10: the word as which it is told;");
        Due.is("told", x.row(0, 10), 3 + 9 + 243 + 729);
        Due.is("nothing", x.row(1, 10), 0);
        x.fill(1, 6560);
        Due.is("the greatest", x.row(1, 10), 6560);
        Doc.quote("Promise 13", "11: that of its levels;");
        Due.is("levels", x.row(0, 11), 0);
        Due.is("the greatest", x.row(1, 11), 6560);
        x.write(0, 7, 2);
        Due.is("the last cell", x.row(0, 11), 4374);
        x.write(0, 0, 1);
        Due.is("the first cell", x.row(0, 11), 4375);
    }

    private static void rowCounts() {
        DriftingLevels x = new DriftingLevels();
        Sample.lower(x, 5, 90);
        x.anew(5);
        x.anew(5);
        x.anew(4);
        Doc.quote("Promise 13", "12: levels of it that were lost so far;");
        Due.is("all, and then none", x.row(5, 12), 8);
        Due.is("none", x.row(4, 12), 0);
        x.fill(5, 0);
        x.anew(5);
        Due.is("all once more", x.row(5, 12), 16);
        Doc.quote("Promise 13", "13: how often it was written anew so far");
        Due.is("three times", x.row(5, 13), 3);
        Due.is("once", x.row(4, 13), 1);
        Due.is("never", x.row(3, 13), 0);
        x.set(2, 1);
        x.days(2);
        Due.is("by age, too", x.row(3, 13), 2);
    }

    private static void table() {
        Doc.quote("Promise 14", "Returns how often a level was told as something by ask() so far.", "Returns how often;");
        for (int level = 0; level < 3; level++) {
            for (int told = 0; told < 3; told++) {
                tableOf(level, told);
            }
        }
        DriftingLevels x = new DriftingLevels();
        x.anew(0);
        x.fill(0, 0);
        x.cell(0, 0, 2);
        Due.is("what is told but not asked", x.count(10), 0);
    }

    /** The thresholds of the row 0 are put so that a level is told as what is wanted, two times. */
    private static void tableOf(int level, int told) {
        int[][] guards = {{997, 998, 999}, {0, level == 2 ? 840 : 40, 999}, {0, 40, 81}};
        DriftingLevels x = new DriftingLevels();
        x.set(1, 1);
        x.write(0, 0, level);
        x.write(0, 1, level);
        for (int guard = 0; guard < 3; guard++) {
            x.fail(0, guard, guards[told][guard]);
        }
        Due.is("told", x.ask(0, 0), told);
        Due.is("told", x.ask(0, 1), told);
        for (int pair = 0; pair < 9; pair++) {
            Due.is("table " + pair, x.table(pair / 3, pair % 3), pair == 3 * level + told ? 2 : 0);
        }
    }
}
