/** Promises 23 to 26: type, clearText, fault, play. */
public final class TextsTest {
    private static final int INVALID = DriftingLevels.INVALID_ARGUMENT;
    private static final int NOT_POSSIBLE = DriftingLevels.NOT_POSSIBLE;
    private static final int LIMIT = DriftingLevels.LIMIT_REACHED;
    private static final int NOT_FOUND = DriftingLevels.NOT_FOUND;

    public static void main(String[] args) {
        type();
        clearText();
        textsWithoutFault();
        faultsOfForm();
        ordersThatAreRefused();
        ordersAreDoneInTheirOrder();
        faultByTheStateOfNow();
        faultAtTheLastDay();
        play();
        playIsOneChange();
        playWithAFault();
        Due.end();
    }

    private static void type() {
        DriftingLevels x = new DriftingLevels();
        Due.invalid("type(31)", x.type(31));
        Due.invalid("type(127)", x.type(127));
        Due.invalid("type(-1)", x.type(-1));
        Due.is("type(32)", x.type(32), 1);
        Due.is("type(126)", x.type(126), 2);
        for (int length = 3; length <= 60; length++) {
            Due.is("type", x.type('a'), length);
        }
        Due.is("full", x.type('a'), LIMIT);
        Due.invalid("rather invalid", x.type(31));
        Due.is("count(16)", x.count(16), 60);
        Due.is("no change", x.count(15), 0);
    }

    private static void clearText() {
        DriftingLevels x = new DriftingLevels();
        Due.is("clearText()", x.clearText(), 0);
        Due.type(x, "a0;a6");
        Due.is("clearText()", x.clearText(), 5);
        Due.is("clearText()", x.clearText(), 0);
        Due.is("count(16)", x.count(16), 0);
        Due.is("fault(0)", x.fault(0), NOT_FOUND);
        Due.type(x, "a0");
        Due.is("what was cleared does not come back", x.fault(2), 2);
        Due.is("no change", x.count(15), 0);
    }

    private static void faultIs(String text, int position, int reason, int cause) {
        DriftingLevels x = new DriftingLevels();
        Due.type(x, text);
        Due.is("position in " + text, x.fault(0), position);
        Due.is("reason in " + text, x.fault(1), reason);
        Due.is("cause in " + text, x.fault(2), cause);
        Due.is("the text stays", x.count(16), text.length());
        Due.is("no change", x.count(15), 0);
        Due.is("play() of " + text, x.play(), NOT_POSSIBLE);
        Due.invalid("fault(-1)", x.fault(-1));
        Due.invalid("fault(3)", x.fault(3));
    }

    private static void noFaultIn(String text, int orders) {
        DriftingLevels x = new DriftingLevels();
        Due.type(x, text);
        for (int what = 0; what < 3; what++) {
            Due.is("fault(" + what + ") of " + text, x.fault(what), NOT_FOUND);
        }
        Due.invalid("fault(3)", x.fault(3));
        Due.is("play() of " + text, x.play(), orders);
    }

    private static void textsWithoutFault() {
        noFaultIn("", 0);
        noFaultIn("w0,0,1;", 1);
        noFaultIn("w000,007,002;", 1);
        noFaultIn("a5;", 1);
        noFaultIn("f0,2,999;", 1);
        noFaultIn("f0,2,1;m0,2;f0,2,3;", 3);
        noFaultIn("r5,200;", 1);
        noFaultIn("d99;d1;d099;", 3);
        noFaultIn("a0;a1;a2;a3;a4;a5;a0;a1;a2;a3;a4;a5;a0;a1;a2;a3;a4;a5;a0;a1;", 20);
    }

    private static void faultsOfForm() {
        faultIs("x", 0, 1, 0);
        faultIs("W0,0,0;", 0, 1, 0);
        faultIs(";", 0, 1, 0);
        faultIs(" a0;", 0, 1, 0);
        faultIs("w", 0, 1, 1);
        faultIs("w,0,0;", 0, 1, 1);
        faultIs("w0", 0, 1, 2);
        faultIs("w0,", 0, 1, 3);
        faultIs("w0,0", 0, 1, 4);
        faultIs("w0,0,", 0, 1, 5);
        faultIs("w0,0,1", 0, 1, 6);
        faultIs("w0;", 0, 1, 2);
        faultIs("w0,0;", 0, 1, 4);
        faultIs("w0,0,1,", 0, 1, 6);
        faultIs("w0,,1;", 0, 1, 3);
        faultIs("w0,0,;", 0, 1, 5);
        faultIs("w0000,0,0;", 0, 1, 4);
        faultIs("w000,0000", 0, 1, 8);
        faultIs("f0,0,1000;", 0, 1, 8);
        faultIs("f0,0;", 0, 1, 4);
        faultIs("m0;", 0, 1, 2);
        faultIs("m0,0,0;", 0, 1, 4);
        faultIs("r0,20", 0, 1, 5);
        faultIs("r0,20,", 0, 1, 5);
        faultIs("a", 0, 1, 1);
        faultIs("a0,", 0, 1, 2);
        faultIs("a-1;", 0, 1, 1);
        faultIs("d", 0, 1, 1);
        faultIs("d5 ;", 0, 1, 2);
        faultIs("d1000;", 0, 1, 4);
        faultIs("d1;a", 3, 1, 1);
        faultIs("d1; a0;", 3, 1, 0);
        faultIs("d1;;", 3, 1, 0);
        faultIs("d1;w0,0,2", 3, 1, 6);
        faultIs("a0;a1;r0,1;w0,x", 11, 1, 3);
    }

    private static void ordersThatAreRefused() {
        faultIs("w6,0,0;", 0, 2, INVALID);
        faultIs("w0,8,0;", 0, 2, INVALID);
        faultIs("w0,0,3;", 0, 2, INVALID);
        faultIs("a6;", 0, 2, INVALID);
        faultIs("f0,3,0;", 0, 2, INVALID);
        faultIs("m0,0;", 0, 2, NOT_POSSIBLE);
        faultIs("m0,3;", 0, 2, INVALID);
        faultIs("r0,0;", 0, 2, INVALID);
        faultIs("r0,201;", 0, 2, INVALID);
        faultIs("d0;", 0, 2, INVALID);
        faultIs("d100;", 0, 2, INVALID);
        faultIs("a6", 0, 1, 2);
        faultIs("a6;x", 0, 2, INVALID);
        faultIs("a0;x;a6;", 3, 1, 0);
        faultIs("a0;a6;x", 3, 2, INVALID);
    }

    private static void ordersAreDoneInTheirOrder() {
        faultIs("f0,0,1;f0,0,2;", 7, 2, NOT_POSSIBLE);
        faultIs("f0,0,1;m0,0;m0,0;", 12, 2, NOT_POSSIBLE);
        faultIs("f0,0,1;m0,0;f0,0,2;f0,0,3;", 19, 2, NOT_POSSIBLE);
    }

    private static void faultByTheStateOfNow() {
        DriftingLevels x = new DriftingLevels();
        Due.type(x, "m0,0;");
        Due.is("fault(2)", x.fault(2), NOT_POSSIBLE);
        x.fail(0, 0, 9);
        Due.is("fault(2)", x.fault(2), NOT_FOUND);
        Due.is("play()", x.play(), 1);
        Due.is("fault(0)", x.fault(0), 0);
        Due.is("play()", x.play(), NOT_POSSIBLE);
        x.undo();
        Due.is("play()", x.play(), 1);
    }

    private static void faultAtTheLastDay() {
        DriftingLevels x = new DriftingLevels();
        for (int i = 0; i < 100; i++) {
            x.days(99);
        }
        Due.type(x, "d98;d1;d1;");
        Due.is("fault(0)", x.fault(0), 7);
        Due.is("fault(1)", x.fault(1), 2);
        Due.is("fault(2)", x.fault(2), LIMIT);
        x.clearText();
        Due.type(x, "d98;d1;");
        Due.is("play()", x.play(), 2);
        Due.is("count(0)", x.count(0), 9999);
    }

    private static void play() {
        DriftingLevels x = new DriftingLevels();
        Due.type(x, "d5;a1;w1,7,1;f2,0,33;f3,1,44;m3,1;r4,99;");
        Due.is("play()", x.play(), 7);
        Due.is("days", x.count(0), 5);
        Due.is("anew", x.row(1, 13), 1);
        Due.is("written", x.row(1, 11), 2187);
        Due.is("failed", x.guard(2, 0, 1), 1);
        Due.is("failed at", x.guard(2, 0, 0), 33);
        Due.is("mended", x.guard(3, 1, 1), 0);
        Due.is("mended at", x.guard(3, 1, 0), 44);
        Due.is("rate", x.row(4, 8), 99);
        Due.is("the text stays", x.count(16), 40);
        Due.is("done twice", x.play(), NOT_POSSIBLE);
        DriftingLevels y = new DriftingLevels();
        Due.type(y, "w000,001,002;");
        Due.is("play()", y.play(), 1);
        Due.is("play()", y.play(), 1);
        Due.is("written twice more", y.cell(0, 1, 5), 3);
        Due.is("level", y.cell(0, 1, 0), 2);
    }

    private static void playIsOneChange() {
        DriftingLevels x = new DriftingLevels();
        Due.is("play() of nothing", x.play(), 0);
        Due.is("is a change", x.count(15), 1);
        Due.type(x, "d5;a1;w1,7,1;");
        x.play();
        Due.is("one change", x.count(15), 2);
        Due.is("undo()", x.undo(), 1);
        Due.is("all is undone", x.count(0), 0);
        Due.is("all is undone", x.row(1, 11), 0);
        Due.is("but the text", x.count(16), 13);
    }

    private static void playWithAFault() {
        DriftingLevels x = new DriftingLevels();
        Due.type(x, "d5;a1;a6;");
        Due.is("play()", x.play(), NOT_POSSIBLE);
        Due.is("nothing is done", x.count(0), 0);
        Due.is("nothing is done", x.count(9), 0);
        Due.is("nothing is recorded", x.count(15), 0);
        Due.is("the text stays", x.count(16), 9);
    }
}
