/** The sentences of "Texts" and of the promises 23 to 26. */
final class TextEdges {
    private static final int INVALID = Calls.INVALID;
    private static final int NOT_POSSIBLE = Calls.NOT_POSSIBLE;
    private static final int LIMIT = Calls.LIMIT;
    private static final int NOT_FOUND = Calls.NOT_FOUND;
    private static final String[] ORDERS = {"w5,7,2;", "a5;", "f5,2,999;", "m5,2;", "r5,200;", "d99;", "w0,0,0;",
        "a0;", "f000,001,002;", "m000,001;", "r001,020;", "d001;"};
    private static final String KINDS = "wafmrd";
    private static final String FULL = "a0;a1;a2;a3;a4;a5;a0;a1;a2;a3;a4;a5;a0;a1;a2;a3;a4;a5;a0;a1;";
    private static final String ALL_KINDS = "orders, each followed by \";\": \"w\" a row, \",\", a cell, \",\", a level"
        + " (written), \"a\" a row (written anew), \"f\" a row, \",\", a guard, \",\", a value (it fails), \"m\" a row,"
        + " \",\", a guard (mended), \"r\" a row, \",\", a rate or \"d\" days (that end);";
    private static final String BREAKS_OFF = "its cause is with the reason 1 at which character of the order, from 0,"
        + " it breaks off";

    private TextEdges() {
    }

    static void all() {
        atMost60();
        initiallyEmpty();
        ordersDo();
        otherKinds();
        eachOrderEnds();
        oneToThreeDigits();
        zeroAhead();
        positions();
        reasonOfTheForm();
        reasonOfTheState();
        causeOfTheForm();
        causeOfTheEnd();
        causeOfTheState();
        textStays();
        type();
        clearText();
        fault();
        noFault();
        play();
        oneChange();
        playWithAFault();
    }

    private static void faultIs(String text, int position, int reason, int cause) {
        DriftingLevels x = Sample.withText(text);
        Due.is("position in " + text, x.fault(0), position);
        Due.is("reason in " + text, x.fault(1), reason);
        Due.is("cause in " + text, x.fault(2), cause);
    }

    private static void noFaultIn(String text) {
        faultIs(text, NOT_FOUND, NOT_FOUND, NOT_FOUND);
    }

    private static void atMost60() {
        Doc.quote("Texts", "There is a text of at most 60 characters");
        DriftingLevels x = Sample.withText(FULL);
        Due.is("length", x.count(16), 60);
        Due.is("one more", x.type(';'), LIMIT);
        Due.is("length", x.count(16), 60);
        Due.is("orders of the full text", x.play(), 20);
        faultIs(FULL.substring(0, 57) + "a6;", 57, 2, INVALID);
        faultIs(FULL.substring(0, 57) + "w0,", 57, 1, 3);
        faultIs(FULL.substring(0, 57) + "d99", 57, 1, 3);
        // Of these orders the last ";" is the 61st character.
        faultIs(FULL.substring(0, 57) + "d99;", 57, 1, 3);
        faultIs(FULL.substring(0, 54) + "w0,0,0;", 54, 1, 6);
    }

    private static void initiallyEmpty() {
        Doc.quote("Texts", "initially empty:");
        DriftingLevels x = new DriftingLevels();
        Due.is("length", x.count(16), 0);
        Due.is("clearText()", x.clearText(), 0);
        Due.is("the first character", x.type('d'), 1);
    }

    private static void ordersDo() {
        Doc.quote("Texts", ALL_KINDS);
        Due.is("written", played("w5,7,2;").cell(5, 7, 1), 897);
        Due.is("written anew", played("a5;").row(5, 13), 1);
        Due.is("failed", played("f5,2,999;").guard(5, 2, 1), 1);
        Due.is("failed at", played("f5,2,999;").guard(5, 2, 0), 999);
        Due.is("mended", played("f5,2,999;m5,2;").guard(5, 2, 1), 0);
        Due.is("the rate", played("r5,200;").row(5, 8), 200);
        Due.is("days", played("d99;").count(0), 99);
        Due.is("not another cell", played("w5,7,2;").count(14), 1);
        Due.is("not another row", played("a5;").count(9), 1);
        Due.is("not another guard", played("f5,2,999;").count(6), 1);
    }

    private static DriftingLevels played(String text) {
        DriftingLevels x = Sample.withText(text);
        x.play();
        return x;
    }

    private static void otherKinds() {
        Doc.quote("Texts", ALL_KINDS);
        for (int kind = 32; kind <= 126; kind++) {
            if (KINDS.indexOf(kind) < 0) {
                faultIs((char) kind + "0;", 0, 1, 0);
                faultIs("a0;" + (char) kind + "0,0,0;", 3, 1, 0);
            }
        }
    }

    private static void eachOrderEnds() {
        Doc.quote("Texts", "orders, each followed by \";\":");
        noFaultIn("a0;a1;");
        faultIs("a0", 0, 1, 2);
        faultIs("a0;a1", 3, 1, 2);
        faultIs("a0a1;", 0, 1, 2);
        faultIs("a0,a1;", 0, 1, 2);
        faultIs("a0;;a1;", 3, 1, 0);
        faultIs(";", 0, 1, 0);
        faultIs("a0; a1;", 3, 1, 0);
    }

    private static void oneToThreeDigits() {
        Doc.quote("Texts", "numbers of 1 to 3 digits");
        noFaultIn("f0,0,1;f0,1,12;f0,2,123;");
        faultIs("a;", 0, 1, 1);
        faultIs("d;", 0, 1, 1);
        faultIs("w,0,0;", 0, 1, 1);
        faultIs("w0,,0;", 0, 1, 3);
        faultIs("w0,0,;", 0, 1, 5);
        faultIs("m0,;", 0, 1, 3);
        faultIs("f0,0,1000;", 0, 1, 8);
        faultIs("a0000;", 0, 1, 4);
        faultIs("d0001;", 0, 1, 4);
        faultIs("r0,0001;", 0, 1, 6);
        faultIs("w0,0000,0;", 0, 1, 6);
        faultIs("w0000,0,0;", 0, 1, 4);
        faultIs("m0,0000;", 0, 1, 6);
        faultIs("d1000", 0, 1, 4);
        faultIs("d-1;", 0, 1, 1);
        faultIs("d+1;", 0, 1, 1);
    }

    private static void zeroAhead() {
        Doc.quote("Texts", "0 ahead allowed.");
        noFaultIn("a00;a000;a005;");
        Due.is("w005,007,002;", played("w005,007,002;").cell(5, 7, 0), 2);
        Due.is("f05,02,099;", played("f05,02,099;").guard(5, 2, 0), 99);
        Due.is("f05,02,009;", played("f05,02,009;").guard(5, 2, 0), 9);
        Due.is("r005,020;", played("r005,010;").row(5, 8), 10);
        Due.is("d010;", played("d010;").count(0), 10);
        faultIs("d000;", 0, 2, INVALID);
    }

    private static void positions() {
        Doc.quote("Texts", "The fault of the text is the position, from 0, of the first character of the first order"
            + " that is not possible;");
        faultIs("x", 0, 1, 0);
        faultIs("a6;", 0, 2, INVALID);
        faultIs("a0;w0,x", 3, 1, 3);
        faultIs("w0,0,0;a6;", 7, 2, INVALID);
        faultIs("d1;d2;d3;d100;d0;x", 9, 2, INVALID);
        faultIs("d1;x;d0;", 3, 1, 0);
        faultIs("d1;d0;x;", 3, 2, INVALID);
    }

    private static void reasonOfTheForm() {
        Doc.quote("Texts", "its reason is 1 if it is not of this form, its \";\" included");
        faultIs("a6", 0, 1, 2);
        faultIs("a6,", 0, 1, 2);
        faultIs("w9,9,9", 0, 1, 6);
        faultIs("m0,0", 0, 1, 4);
        faultIs("d0.", 0, 1, 2);
    }

    private static void reasonOfTheState() {
        Doc.quote("Texts", "and otherwise 2, when those ahead of it are done;");
        faultIs("m0,0;", 0, 2, NOT_POSSIBLE);
        noFaultIn("f0,0,1;m0,0;");
        faultIs("f0,0,1;f0,0,1;", 7, 2, NOT_POSSIBLE);
        noFaultIn("f0,0,1;m0,0;f0,0,1;");
        faultIs("f0,0,1;m0,0;m0,0;", 12, 2, NOT_POSSIBLE);
        DriftingLevels x = Sample.withText("m0,0;");
        x.fail(0, 0, 1);
        Due.is("what was done ahead of the text counts, too", x.fault(1), NOT_FOUND);
        Due.is("and they are not done by fault()", x.guard(0, 0, 1), 1);
    }

    private static void causeOfTheForm() {
        Doc.quote("Texts", BREAKS_OFF);
        for (String order : ORDERS) {
            for (int at = 0; at < order.length(); at++) {
                for (char other : " /:+-.<xWD~".toCharArray()) {
                    breaksOffAt(order, at, other);
                }
                boolean isFirstDigit = at == 1 || at > 1 && order.charAt(at - 1) == ',';
                if (order.charAt(at) == ';' || isFirstDigit) {
                    breaksOffAt(order, at, ',');
                }
                if (order.charAt(at) == ',' || isFirstDigit) {
                    breaksOffAt(order, at, ';');
                }
            }
        }
    }

    private static void breaksOffAt(String order, int at, char other) {
        String broken = order.substring(0, at) + other + order.substring(at + 1);
        faultIs(broken, 0, 1, at);
        faultIs("d1;a5;" + broken, 6, 1, at);
    }

    private static void causeOfTheEnd() {
        Doc.quote("Texts", "(of one that the text ends too early it is its length)");
        for (String order : ORDERS) {
            for (int length = 1; length < order.length(); length++) {
                faultIs(order.substring(0, length), 0, 1, length);
                faultIs("d1;a5;" + order.substring(0, length), 6, 1, length);
            }
        }
    }

    private static void causeOfTheState() {
        Doc.quote("Texts", "and with the reason 2 the error code that the call returns for it.");
        for (String order : new String[] {"w6,0,0;", "w0,8,0;", "w0,0,3;", "a6;", "f6,0,0;", "f0,3,0;", "m6,0;",
            "m0,3;", "r6,1;", "r0,0;", "r0,201;", "d0;", "d100;", "d999;", "w999,999,999;"}) {
            faultIs(order, 0, 2, INVALID);
        }
        faultIs("m0,0;", 0, 2, NOT_POSSIBLE);
        faultIs("f0,0,1;f0,0,2;", 7, 2, NOT_POSSIBLE);
        faultIs("f0,0,1;f0,3,2;", 7, 2, INVALID);
        DriftingLevels x = Sample.onDay(9998);
        Due.type(x, "d1;d1;");
        Due.is("position on the last day", x.fault(0), 3);
        Due.is("cause on the last day", x.fault(2), LIMIT);
        x.clearText();
        Due.type(x, "d2;");
        Due.is("cause on the last day", x.fault(2), LIMIT);
        x.clearText();
        Due.type(x, "d100;");
        Due.is("rather invalid", x.fault(2), INVALID);
    }

    private static void textStays() {
        Doc.quote("Texts", "The text stays, whether it has a fault or not.");
        DriftingLevels x = Sample.withText("w0,0,1;");
        x.fault(0);
        Due.is("after fault()", x.count(16), 7);
        Due.is("play()", x.play(), 1);
        Due.is("after play()", x.count(16), 7);
        Due.is("play() again", x.play(), 1);
        Due.type(x, "a6;");
        Due.is("play() with a fault", x.play(), NOT_POSSIBLE);
        Due.is("after it", x.count(16), 10);
        Due.is("the fault stays", x.fault(0), 7);
        Due.is("the next character", x.type('x'), 11);
    }

    private static void type() {
        Doc.quote("Promise 23", "Appends a character to the text.");
        DriftingLevels x = Sample.withText("a6");
        Due.is("fault ahead of it", x.fault(1), 1);
        x.type(';');
        Due.is("fault after it", x.fault(1), 2);
        Doc.quote("Promise 23", "Returns the length of the text;");
        DriftingLevels y = new DriftingLevels();
        for (int length = 1; length <= 60; length++) {
            Due.is("type", y.type(length % 2 == 0 ? 32 : 126), length);
        }
        Doc.quote("Promise 23", "LIMIT_REACHED if it has 60 characters.");
        Due.is("the 61st", y.type(126), LIMIT);
        Due.is("the 61st", y.type(32), LIMIT);
        Due.is("length", y.count(16), 60);
        y.clearText();
        Due.is("the first again", y.type(32), 1);
    }

    private static void clearText() {
        Doc.quote("Promise 24", "Empties the text.");
        DriftingLevels x = Sample.withText("a6;");
        x.clearText();
        Due.is("length", x.count(16), 0);
        Due.is("fault", x.fault(0), NOT_FOUND);
        Due.is("play()", x.play(), 0);
        x.type('a');
        Due.is("the old characters do not come back", x.fault(2), 1);
        Doc.quote("Promise 24", "Returns the length it had.");
        Due.is("of 1", x.clearText(), 1);
        Due.is("of 0", x.clearText(), 0);
        Due.is("of 60", Sample.withText(FULL).clearText(), 60);
    }

    private static void fault() {
        DriftingLevels x = Sample.withText("a0;w0,x");
        Doc.quote("Promise 25", "Tells about the fault of the text.", "Returns that;", "0: its position");
        Due.is("fault(0)", x.fault(0), 3);
        Doc.quote("Promise 25", "1: its reason");
        Due.is("fault(1)", x.fault(1), 1);
        Doc.quote("Promise 25", "2: its cause");
        Due.is("fault(2)", x.fault(2), 3);
    }

    private static void noFault() {
        Doc.quote("Promise 25", "NOT_FOUND if the text has no fault (also if it is empty).");
        noFaultIn("");
        noFaultIn("a0;");
        noFaultIn(FULL);
        Due.invalid("but fault(3)", new DriftingLevels().fault(3));
        Due.invalid("but fault(-1)", new DriftingLevels().fault(-1));
    }

    private static void play() {
        Doc.quote("Promise 26", "Does all orders of the text, which stays.", "Returns how many there are in it;");
        DriftingLevels x = Sample.withText("w0,0,1;r0,7;f1,1,9;m1,1;a2;d3;");
        Due.is("play()", x.play(), 6);
        Due.is("the first", x.cell(0, 0, 0), 1);
        Due.is("the last", x.count(0), 3);
        Due.is("those between", x.row(0, 8) + x.row(2, 13), 8);
        Due.is("the text", x.count(16), 30);
        Due.is("play() of the longest", Sample.withText(FULL).play(), 20);
        Due.is("play() of one", Sample.withText("d1;").play(), 1);
        Due.is("play() of none", new DriftingLevels().play(), 0);
    }

    private static void oneChange() {
        Doc.quote("Promise 26", "They are one change, also if there are none.");
        DriftingLevels x = Sample.withText("d1;d1;d1;d1;d1;");
        x.play();
        Due.is("states", x.count(15), 1);
        Due.is("undo()", x.undo(), 0);
        Due.is("the day", x.count(0), 0);
        x.clearText();
        Due.is("play() of none", x.play(), 0);
        Due.is("states", x.count(15), 1);
        Due.is("undo()", x.undo(), 0);
    }

    private static void playWithAFault() {
        Doc.quote("Promise 26", "NOT_POSSIBLE if it has a fault.");
        for (String text : new String[] {"d1;x", "d1;d0;", "d1", "d1;m0,0;"}) {
            DriftingLevels x = Sample.withText(text);
            Due.is("play() of " + text, x.play(), NOT_POSSIBLE);
            Due.is("the day after " + text, x.count(0), 0);
            Due.is("states after " + text, x.count(15), 0);
            Due.is("characters after " + text, x.count(16), text.length());
        }
    }
}
