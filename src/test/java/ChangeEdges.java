/** The sentences of "Changes and errors", and of the promise 22. */
final class ChangeEdges {
    private static final String[] CHANGES = {"write", "fill", "anew", "fail", "mend", "rate", "ask", "days", "set",
        "play"};
    private static final int[][] ARGUMENTS = {{5, 3, 1}, {5, 6560}, {5}, {5, 1, 7}, {0, 0}, {5, 9}, {5, 3}, {9},
        {1, 9}, {}};

    private ChangeEdges() {
    }

    static void all() {
        constants();
        headings();
        changesAreRecorded();
        othersAreNoChanges();
        changesWithErrors();
        atMostFour();
        everythingButTheText();
        oldestIsDropped();
        invalidFirst();
        refusedCallsChangeNothing();
        refusedOnTheLastDay();
        refusedInAFullText();
        lookingChangesNothing();
        undo();
        undoOfNothing();
        call512();
    }

    private static void constants() {
        Doc.quote("Changes and errors", "The constants:");
        Due.is("INVALID_ARGUMENT", DriftingLevels.INVALID_ARGUMENT, -1000001);
        Doc.quote("Changes and errors", "`INVALID_ARGUMENT = -1000001`: An argument is out of its range.");
        Due.is("anew(6)", new DriftingLevels().anew(6), -1000001);
        Doc.quote("Changes and errors", "`NOT_POSSIBLE = -1000002`: The call is not possible in the present state.");
        Due.is("NOT_POSSIBLE", DriftingLevels.NOT_POSSIBLE, -1000002);
        Due.is("mend(0, 0)", new DriftingLevels().mend(0, 0), -1000002);
        Doc.quote("Changes and errors", "`LIMIT_REACHED = -1000003`: A fixed limit has been reached.");
        Due.is("LIMIT_REACHED", DriftingLevels.LIMIT_REACHED, -1000003);
        Due.is("days(1)", Sample.onDay(9999).days(1), -1000003);
        Doc.quote("Changes and errors", "`NOT_FOUND = -1000004`: There is no such value.");
        Due.is("NOT_FOUND", DriftingLevels.NOT_FOUND, -1000004);
        Due.is("share()", new DriftingLevels().share(), -1000004);
    }

    /** FaceTest looks for them in the source. */
    private static void headings() {
        Doc.quote("Changes and errors",
            "Ahead of the calls `write`, `fill`, `anew`, `ask` the interface says: ---- writing.",
            "Ahead of the calls `fail`, `mend`, `rate`, `days`, `set` the interface says: ---- guards, days.",
            "Ahead of the calls `cell`, `guard`, `row`, `table` the interface says: ---- what there is.",
            "Ahead of the calls `wrongIn`, `rightFor`, `safeAge`, `worst`, `mean`, `share`, `count`, `undo` the"
                + " interface says: ---- what would be.",
            "Ahead of the calls `type`, `clearText`, `fault`, `play` the interface says: ---- texts.");
        Due.is("headings", FaceTest.HEADINGS.length, 5);
    }

    private static void changesAreRecorded() {
        for (int i = 0; i < CHANGES.length; i++) {
            Doc.quote("Changes and errors",
                "The changes are the calls of write, fill, anew, fail, mend, rate, ask, days, set and play");
            DriftingLevels x = new DriftingLevels();
            x.fail(0, 0, 5);
            String call = Calls.told(CHANGES[i], ARGUMENTS[i]);
            Due.is("errors of " + call, Calls.answer(x, CHANGES[i], ARGUMENTS[i]) < 0 ? 1 : 0, 0);
            Due.is("states after " + call, x.count(15), 2);
            Due.is("undo of " + call, x.undo(), 1);
        }
        sameIsAChange();
    }

    /** A change that leaves all as it is is recorded, too. */
    private static void sameIsAChange() {
        DriftingLevels x = new DriftingLevels();
        x.rate(0, 20);
        x.set(0, 500);
        Due.is("states", x.count(15), 2);
    }

    private static void othersAreNoChanges() {
        Doc.quote("Changes and errors",
            "The changes are the calls of write, fill, anew, fail, mend, rate, ask, days, set and play");
        DriftingLevels x = new DriftingLevels();
        x.rate(0, 1);
        Due.type(x, "a0;");
        x.fault(0);
        x.clearText();
        x.cell(0, 0, 0);
        x.guard(0, 0, 0);
        x.row(0, 0);
        x.table(0, 0);
        x.wrongIn(5);
        x.rightFor(5);
        x.safeAge();
        x.worst(0);
        x.mean();
        x.share();
        Due.is("states", x.count(15), 1);
        Due.is("undo()", x.undo(), 0);
        Due.is("undo() is no change either", x.count(15), 0);
    }

    private static void changesWithErrors() {
        Doc.quote("Changes and errors", "that return no error.");
        DriftingLevels x = Sample.withText("x");
        x.fail(0, 0, 5);
        Due.invalid("write(6, 0, 0)", x.write(6, 0, 0));
        Due.invalid("fill(0, 6561)", x.fill(0, 6561));
        Due.invalid("anew(6)", x.anew(6));
        Due.is("fail(0, 0, 5)", x.fail(0, 0, 5), Calls.NOT_POSSIBLE);
        Due.is("mend(0, 1)", x.mend(0, 1), Calls.NOT_POSSIBLE);
        Due.invalid("rate(0, 0)", x.rate(0, 0));
        Due.invalid("ask(0, 8)", x.ask(0, 8));
        Due.invalid("days(0)", x.days(0));
        Due.invalid("set(1, 0)", x.set(1, 0));
        Due.is("play()", x.play(), Calls.NOT_POSSIBLE);
        Due.is("states", x.count(15), 1);
    }

    private static void atMostFour() {
        Doc.quote("Changes and errors", "A history of at most 4 states is kept:");
        DriftingLevels x = new DriftingLevels();
        Due.is("at first", x.count(15), 0);
        for (int changes = 1; changes <= 9; changes++) {
            x.rate(0, changes);
            Due.is("states after " + changes, x.count(15), Math.min(changes, 4));
        }
        for (int left = 3; left >= 0; left--) {
            Due.is("undo()", x.undo(), left);
            Due.is("the rate", x.row(0, 8), 5 + left);
        }
        Due.is("a fifth", x.undo(), Calls.NOT_POSSIBLE);
    }

    private static void everythingButTheText() {
        for (int i = 0; i < CHANGES.length; i++) {
            Doc.quote("Changes and errors", "each change records everything before it but the text");
            DriftingLevels x = Sample.used();
            x.clearText();
            Due.type(x, "a0;d3;");
            Calls.answer(x, CHANGES[i], ARGUMENTS[i]);
            Due.type(x, "xy");
            Due.is("undo of " + CHANGES[i], x.undo(), 3);
            Due.same("what was, and what is again after " + CHANGES[i], Picture.of(x), Picture.of(Sample.used()));
            Due.is("the length of the text", x.count(16), 8);
            Due.is("its fault", x.fault(0), 6);
        }
    }

    private static void oldestIsDropped() {
        Doc.quote("Changes and errors", "and if there are 5 states then, the oldest one is dropped.");
        DriftingLevels four = new DriftingLevels();
        DriftingLevels five = new DriftingLevels();
        five.days(1);
        for (int changes = 1; changes <= 4; changes++) {
            four.days(10);
            five.days(10);
        }
        for (int i = 0; i < 4; i++) {
            four.undo();
            five.undo();
        }
        Due.is("after four, the day", four.count(0), 0);
        Due.is("after five, the day", five.count(0), 1);
        Due.is("after five, no more", five.undo(), Calls.NOT_POSSIBLE);
        five.days(10);
        Due.is("one more", five.undo(), 0);
        Due.is("the day", five.count(0), 1);
    }

    private static void invalidFirst() {
        Doc.quote("Changes and errors", "If several errors apply to a call, INVALID_ARGUMENT is returned rather than"
            + " NOT_POSSIBLE, NOT_POSSIBLE rather than LIMIT_REACHED, and LIMIT_REACHED rather than NOT_FOUND.");
        DriftingLevels x = Sample.onDay(9999);
        x.fail(0, 0, 5);
        Due.invalid("a value, of a guard that has failed", x.fail(0, 0, 1000));
        Due.invalid("a value, of a guard that has failed", x.fail(0, 0, -1));
        Due.invalid("days, after the last day", x.days(0));
        Due.invalid("days, after the last day", x.days(100));
        Due.invalid("days, after the last day", x.days(Integer.MAX_VALUE));
        Due.invalid("days, after the last day", x.days(Integer.MIN_VALUE));
        Due.invalid("what of a text without a fault", x.fault(3));
        while (x.count(16) < 60) {
            x.type('d');
        }
        Due.invalid("a character, of a full text", x.type(31));
        Due.invalid("a character, of a full text", x.type(127));
        DriftingLevels y = new DriftingLevels();
        for (int row = 0; row < 6; row++) {
            y.rate(row, 1);
        }
        Due.invalid("a row, where all are right for long", y.wrongIn(6));
        Due.invalid("a row, where all are right for long", y.rightFor(-1));
    }

    private static void refusedCallsChangeNothing() {
        Doc.quote("Changes and errors", "A call that returns an error changes nothing.");
        nothing("write", 6, 3, 1);
        nothing("write", 5, 8, 1);
        nothing("write", 5, 3, 3);
        nothing("fill", 6, 0);
        nothing("fill", 5, 6561);
        nothing("anew", 6);
        nothing("ask", 6, 0);
        nothing("ask", 5, -1);
        nothing("fail", 0, 0, 7);
        nothing("fail", 0, 0, 1000);
        nothing("fail", 0, 1, 1000);
        nothing("mend", 0, 1);
        nothing("mend", 0, 3);
        nothing("rate", 5, 201);
        nothing("rate", 6, 9);
        nothing("days", 0);
        nothing("days", 100);
        nothing("set", 0, 299);
        nothing("set", 1, 301);
        nothing("set", 2, 100);
        nothing("set", 3, 50);
        nothing("type", 127);
        nothing("fault", 3);
        nothing("play");
    }

    /** The state, the history and the text are those of an object that did not get the call. */
    private static void nothing(String name, int... a) {
        DriftingLevels x = Sample.used();
        int answer = Calls.answer(x, name, a);
        String call = Calls.told(name, a);
        boolean isError = answer == Calls.INVALID || answer == Calls.NOT_POSSIBLE;
        Due.is("errors of " + call, isError ? 1 : 0, 1);
        DriftingLevels y = Sample.used();
        Due.same("what was, and what is after " + call, Picture.of(x), Picture.of(y));
        Due.same("the past ahead of, and after " + call, Picture.ofThePast(x), Picture.ofThePast(y));
    }

    private static void refusedOnTheLastDay() {
        Doc.quote("Changes and errors", "A call that returns an error changes nothing.");
        DriftingLevels x = Sample.onDay(9990);
        Due.is("days(10)", x.days(10), Calls.LIMIT);
        Due.is("days(99)", x.days(99), Calls.LIMIT);
        DriftingLevels y = Sample.onDay(9990);
        Due.same("what was, and what is", Picture.of(x), Picture.of(y));
        Due.same("the past", Picture.ofThePast(x), Picture.ofThePast(y));
        DriftingLevels z = Sample.onDay(9990);
        Due.type(z, "w0,0,1;d9;d1;");
        Due.is("play()", z.play(), Calls.NOT_POSSIBLE);
        Due.same("what was, and what is after play()", Picture.of(z), Picture.of(Sample.onDay(9990)));
    }

    private static void refusedInAFullText() {
        Doc.quote("Changes and errors", "A call that returns an error changes nothing.");
        DriftingLevels x = Sample.used();
        while (x.count(16) < 60) {
            x.type('y');
        }
        Due.is("type(';')", x.type(';'), Calls.LIMIT);
        Due.is("length", x.count(16), 60);
        Due.is("fault", x.fault(0), 6);
        Due.is("states", x.count(15), 4);
        x.clearText();
        Due.type(x, "a0;d3;x");
        Due.same("what was, and what is", Picture.of(x), Picture.of(Sample.used()));
    }

    private static void lookingChangesNothing() {
        Doc.quote("Changes and errors", "The changes are the calls of");
        DriftingLevels x = Sample.used();
        for (int row = 0; row < 6; row++) {
            x.wrongIn(row);
            x.rightFor(row);
            x.worst(row);
        }
        x.safeAge();
        x.mean();
        x.share();
        x.fault(0);
        DriftingLevels y = Sample.used();
        Due.same("what was, and what is", Picture.of(x), Picture.of(y));
        Due.same("the past", Picture.ofThePast(x), Picture.ofThePast(y));
    }

    private static void undo() {
        Doc.quote("Promise 22", "Restores the latest state of the history, which is removed from it.",
            "Returns the number of states that are left in the history;");
        DriftingLevels x = new DriftingLevels();
        x.days(1);
        x.days(10);
        Due.is("undo()", x.undo(), 1);
        Due.is("the day", x.count(0), 1);
        Due.is("states", x.count(15), 1);
        x.days(20);
        x.days(30);
        Due.is("states", x.count(15), 3);
        Due.is("undo()", x.undo(), 2);
        Due.is("the day", x.count(0), 21);
        Due.is("undo()", x.undo(), 1);
        Due.is("the day", x.count(0), 1);
        Due.is("undo()", x.undo(), 0);
        Due.is("the day", x.count(0), 0);
    }

    private static void undoOfNothing() {
        Doc.quote("Promise 22", "NOT_POSSIBLE if it is empty.");
        DriftingLevels x = new DriftingLevels();
        Due.is("at first", x.undo(), Calls.NOT_POSSIBLE);
        x.days(1);
        x.undo();
        Due.is("once more than changes", x.undo(), Calls.NOT_POSSIBLE);
        Due.is("the day", x.count(0), 0);
        Due.is("states", x.count(15), 0);
    }

    /** 11 * 512 = 5632 is 4 over by 21. */
    private static void call512() {
        Doc.quote("What it is", "An object is used for at most 512 calls after it has been made");
        DriftingLevels x = new DriftingLevels();
        for (int calls = 1; calls < 512; calls++) {
            x.write(0, 0, calls % 3);
        }
        Due.is("the call 512", x.write(0, 0, 2), 894);
    }
}
