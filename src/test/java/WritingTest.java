/** Promises 1 to 5: a new object, write, fill, anew, ask. */
public final class WritingTest {
    public static void main(String[] args) {
        newObject();
        errorsOfWriting();
        write();
        writeOutside();
        fill();
        fillTellsByTheThresholdsOfBefore();
        anew();
        anewLosesLevels();
        anewLeavesFailedGuards();
        ask();
        Due.end();
    }

    private static void newObject() {
        DriftingLevels x = new DriftingLevels();
        for (int row = 0; row < 6; row++) {
            for (int cell = 0; cell < 8; cell++) {
                Due.is("new level", x.cell(row, cell, 0), 0);
                Due.is("new written", x.cell(row, cell, 5), 1);
                Due.is("new told", x.cell(row, cell, 2), 0);
                Due.is("new days since written", x.cell(row, cell, 7), 0);
            }
            for (int guard = 0; guard < 3; guard++) {
                Due.is("new guard", x.guard(row, guard, 0), 100 + 400 * guard);
                Due.is("new guard failed", x.guard(row, guard, 1), 0);
            }
            Due.is("new rate", x.row(row, 8), 20);
            Due.is("new age", x.row(row, 9), 0);
            Due.is("new lost", x.row(row, 12), 0);
            Due.is("new anew", x.row(row, 13), 0);
        }
        Due.is("new day", x.count(0), 0);
        Due.is("new history", x.count(15), 0);
        Due.is("new text", x.count(16), 0);
        Due.is("new middle", x.count(20), 500);
        Due.is("new apart", x.count(21), 40);
        Due.is("new age of anew", x.count(22), 0);
    }

    private static void errorsOfWriting() {
        DriftingLevels x = new DriftingLevels();
        int[] first = {90, 106, 101, 96, 91, 107, 102, 97};
        for (int cell = 0; cell < 8; cell++) {
            Due.is("value of cell 0, " + cell, x.cell(0, cell, 1), first[cell]);
        }
        // 37 * 8 = 296 = 14 * 21 + 2
        Due.is("cell(1, 0, 1)", x.cell(1, 0, 1), 92);
        Due.is("cell(5, 7, 1)", x.cell(5, 7, 1), 107);
        // 11 more at each writing, over 21: 11, 1, 12, 2
        Due.is("write(0, 0, 0) 1", x.write(0, 0, 0), 101);
        Due.is("write(0, 0, 1) 2", x.write(0, 0, 1), 491);
        Due.is("write(0, 0, 2) 3", x.write(0, 0, 2), 902);
        Due.is("write(0, 0, 2) 4", x.write(0, 0, 2), 892);
    }

    private static void write() {
        DriftingLevels x = new DriftingLevels();
        x.days(3);
        Due.is("write(5, 7, 2)", x.write(5, 7, 2), 897);
        Due.is("its level", x.cell(5, 7, 0), 2);
        Due.is("its value", x.cell(5, 7, 1), 897);
        Due.is("its times", x.cell(5, 7, 5), 2);
        Due.is("its days", x.cell(5, 7, 7), 0);
        Due.is("days of another", x.cell(5, 6, 7), 3);
        Due.is("times of another", x.cell(5, 6, 5), 1);
        Due.is("the guards stay", x.guard(5, 0, 0), 122);
        Due.is("the age stays", x.row(5, 9), 3);
        Due.is("written in all", x.count(8), 1);
        Due.is("not anew", x.count(9), 0);
    }

    private static void writeOutside() {
        DriftingLevels x = new DriftingLevels();
        Due.invalid("write(-1, 0, 0)", x.write(-1, 0, 0));
        Due.invalid("write(6, 0, 0)", x.write(6, 0, 0));
        Due.invalid("write(0, -1, 0)", x.write(0, -1, 0));
        Due.invalid("write(0, 8, 0)", x.write(0, 8, 0));
        Due.invalid("write(0, 0, -1)", x.write(0, 0, -1));
        Due.invalid("write(0, 0, 3)", x.write(0, 0, 3));
        Due.invalid("write(min)", x.write(Integer.MIN_VALUE, Integer.MAX_VALUE, 0));
        Due.is("nothing written", x.count(8), 0);
        Due.is("nothing recorded", x.count(15), 0);
    }

    private static void fill() {
        DriftingLevels x = new DriftingLevels();
        // 5 + 3 * 2 .. : 2 + 1*3 + 0*9 + 2*27 + 1*81 + 0*243 + 1*729 + 2*2187
        int word = 2 + 3 + 54 + 81 + 729 + 4374;
        Due.is("fill(3, word)", x.fill(3, word), 0);
        int[] levels = {2, 1, 0, 2, 1, 0, 1, 2};
        for (int cell = 0; cell < 8; cell++) {
            Due.is("filled level", x.cell(3, cell, 0), levels[cell]);
            Due.is("filled told", x.cell(3, cell, 2), levels[cell]);
            Due.is("filled times", x.cell(3, cell, 5), 2);
        }
        Due.is("row(3, 11)", x.row(3, 11), word);
        Due.is("row(2, 11)", x.row(2, 11), 0);
        Due.is("written in all", x.count(8), 8);
        Due.is("fill(3, 6560)", x.fill(3, 6560), word);
        Due.is("fill(3, 0)", x.fill(3, 0), 6560);
        x.days(2);
        x.fill(3, 0);
        Due.is("age after fill", x.row(3, 9), 2);
        Due.is("guard after fill", x.guard(3, 0, 0), 115);
        Due.is("days after fill", x.cell(3, 4, 7), 0);
        Due.is("fill(5, 1)", x.fill(5, 1), 0);
        Due.invalid("fill(-1, 0)", x.fill(-1, 0));
        Due.invalid("fill(6, 0)", x.fill(6, 0));
        Due.invalid("fill(0, -1)", x.fill(0, -1));
        Due.invalid("fill(0, 6561)", x.fill(0, 6561));
    }

    private static void fillTellsByTheThresholdsOfBefore() {
        DriftingLevels x = Sample.withFourWrong();
        Due.is("told, not the levels", x.fill(0, 0), 3 + 9 + 243 + 729);
        Due.is("nothing is lost by fill", x.row(0, 12), 0);
    }

    private static void anew() {
        DriftingLevels x = new DriftingLevels();
        x.fill(1, 6560);
        x.days(10);
        Due.is("anew(1)", x.anew(1), 0);
        Due.is("its guard 0", x.guard(1, 0, 0), 100);
        Due.is("its guard 2", x.guard(1, 2, 0), 900);
        Due.is("its age", x.row(1, 9), 0);
        Due.is("its word", x.row(1, 11), 6560);
        Due.is("days of its cells", x.cell(1, 3, 7), 0);
        Due.is("times of its cells", x.cell(1, 3, 5), 3);
        // 37 * 8 + 22 = 318 = 15 * 21 + 3
        Due.is("value of its cell 0", x.cell(1, 0, 1), 893);
        Due.is("its times anew", x.row(1, 13), 1);
        Due.is("another's times anew", x.row(0, 13), 0);
        Due.is("another's age", x.row(0, 9), 10);
        Due.is("cells written", x.count(8), 16);
        Due.invalid("anew(-1)", x.anew(-1));
        Due.invalid("anew(6)", x.anew(6));
        Due.is("two of three are recorded", x.count(15), 3);
    }

    private static void anewLosesLevels() {
        DriftingLevels x = Sample.withFourWrong();
        Due.is("anew(0)", x.anew(0), 4);
        Due.is("levels become what was told", x.row(0, 11), 984);
        Due.is("row(0, 12)", x.row(0, 12), 4);
        Due.is("row(1, 12)", x.row(1, 12), 0);
        Due.is("count(7)", x.count(7), 4);
        Due.is("cell 0", x.cell(0, 0, 1), 101);
        Due.is("cell 1", x.cell(0, 1, 1), 496);
        Due.is("told of cell 0", x.cell(0, 0, 2), 1);
        // By 100 and 550 the cells 0, 3, 4 and 7 hold 101, 107, 102 and 108.
        Due.is("anew(0) again", x.anew(0), 4);
        Due.is("row(0, 12) again", x.row(0, 12), 8);
        Due.is("row(0, 11) again", x.row(0, 11), 3280);
    }

    private static void anewLeavesFailedGuards() {
        DriftingLevels x = Sample.withFourWrong();
        x.days(5);
        x.anew(0);
        Due.is("failed guard 0", x.guard(0, 0, 0), 0);
        Due.is("failed guard 1", x.guard(0, 1, 0), 200);
        Due.is("guard 2", x.guard(0, 2, 0), 900);
        Due.is("age all the same", x.row(0, 9), 0);
    }

    private static void ask() {
        DriftingLevels x = Sample.withFourWrong();
        Due.is("ask(0, 0)", x.ask(0, 0), 0);
        Due.is("ask(0, 1)", x.ask(0, 1), 1);
        Due.is("ask(0, 1)", x.ask(0, 1), 1);
        x.write(1, 0, 2);
        Due.is("ask(1, 0)", x.ask(1, 0), 2);
        Due.is("table(0, 0)", x.table(0, 0), 1);
        Due.is("table(0, 1)", x.table(0, 1), 2);
        Due.is("table(2, 2)", x.table(2, 2), 1);
        Due.is("table(1, 0)", x.table(1, 0), 0);
        Due.is("asking writes nothing", x.cell(0, 1, 5), 1);
        Due.is("asking is a change", x.undo(), 3);
        Due.is("the table is restored", x.table(2, 2), 0);
        Due.invalid("ask(-1, 0)", x.ask(-1, 0));
        Due.invalid("ask(6, 0)", x.ask(6, 0));
        Due.invalid("ask(0, -1)", x.ask(0, -1));
        Due.invalid("ask(0, 8)", x.ask(0, 8));
        Due.is("asked in all", x.count(10), 3);
    }
}
