/** Promises 15 to 22: wrongIn, rightFor, safeAge, worst, mean, share, count, undo. */
public final class WhatWouldBeTest {
    public static void main(String[] args) {
        wrongIn();
        wrongInWithin300();
        wrongInWithAge();
        rightFor();
        safeAge();
        safeAgeNone();
        safeAgeOfOne();
        safeAgeOnTheLastDay();
        worst();
        mean();
        meanOfPowersOfTwo();
        share();
        countNumbers();
        countSets();
        countOutside();
        undo();
        undoRestoresAll();
        undoOfEachChange();
        Due.end();
    }

    private static void wrongIn() {
        DriftingLevels x = new DriftingLevels();
        Due.is("wrongIn(0)", x.wrongIn(0), 139);
        x.days(39);
        Due.is("39 days nearer", x.wrongIn(0), 100);
        x.days(99);
        Due.is("one day ahead", x.wrongIn(0), 1);
        Due.is("not yet", x.row(0, 6), 0);
        x.days(1);
        Due.is("now", x.wrongIn(0), 0);
        Due.is("now", x.row(0, 6) > 0 ? 1 : 0, 1);
        Due.is("it changes nothing", x.count(0), 139);
        DriftingLevels y = new DriftingLevels();
        y.rate(0, 1);
        Due.is("only 300 days are looked at", y.wrongIn(0), DriftingLevels.NOT_FOUND);
        Due.is("one that is wrong now", Sample.withFourWrong().wrongIn(0), 0);
        Due.invalid("wrongIn(-1)", x.wrongIn(-1));
        Due.invalid("wrongIn(6)", x.wrongIn(6));
    }

    /** By 1 a day, the cell of 107 comes to the lower threshold of 407 in 300 days, alone. */
    private static void wrongInWithin300() {
        DriftingLevels x = new DriftingLevels();
        x.rate(0, 1);
        x.fail(0, 0, 314);
        Due.is("407 in 300 days", x.wrongIn(0), 300);
        x.mend(0, 0);
        x.fail(0, 0, 316);
        Due.is("408 in 301 days", x.wrongIn(0), DriftingLevels.NOT_FOUND);
        Due.is("wrongIn(5)", x.wrongIn(5), 139);
        Due.is("rightFor(5)", x.rightFor(5), 139);
    }

    private static void wrongInWithAge() {
        DriftingLevels x = new DriftingLevels();
        x.set(2, 50);
        Due.is("written anew in time", x.wrongIn(0), DriftingLevels.NOT_FOUND);
        x.set(2, 0);
        x.fail(0, 1, 0);
        x.fail(1, 1, 0);
        int days = x.wrongIn(0);
        x.days(days - 1);
        Due.is("a day ahead", x.row(0, 6), 0);
        x.days(1);
        Due.is("on the day", x.row(0, 6) > 0 ? 1 : 0, 1);
        x.undo();
        // Written anew by age at the end of that very day, with one told wrong, it has none told wrong then.
        x.set(2, days);
        Due.is("written anew with lost levels", x.wrongIn(0), DriftingLevels.NOT_FOUND);
        Due.is("that age loses some", x.days(1) > 0 ? 1 : 0, 1);
    }

    private static void rightFor() {
        DriftingLevels x = new DriftingLevels();
        Due.is("rightFor(0)", x.rightFor(0), 139);
        x.set(2, 10);
        Due.is("none is written anew by age", x.rightFor(0), 139);
        Due.is("the setting stays", x.count(22), 10);
        x.set(1, 300);
        Due.is("sooner if they are to be further apart", x.rightFor(0), 16);
        x.set(1, 40);
        x.rate(0, 1);
        Due.is("not within 300", x.rightFor(0), DriftingLevels.NOT_FOUND);
        x.fail(1, 1, 100);
        Due.is("not now", x.rightFor(1), 0);
        Due.invalid("rightFor(-1)", x.rightFor(-1));
        Due.invalid("rightFor(6)", x.rightFor(6));
        Due.is("it changes nothing", x.count(0), 0);
        DriftingLevels y = new DriftingLevels();
        y.rate(0, 1);
        y.days(60);
        // By 1 a day, from 160 to 460 in 300 days: 40 apart still, and 39 in 301.
        Due.is("301 days", y.rightFor(0), DriftingLevels.NOT_FOUND);
        y.days(1);
        Due.is("300 days", y.rightFor(0), 300);
    }

    private static void safeAge() {
        DriftingLevels x = new DriftingLevels();
        Due.is("60", x.safeAge(), 60);
        x.fail(0, 1, 0);
        x.fail(1, 1, 0);
        // The row 0 is told by 300 and 700 now: its cell of 107 holds 298 in 36 days, and 302 in 37.
        int age = x.safeAge();
        Due.is("fewer", age, 36);
        Due.is("the setting stays", x.count(22), 0);
        Due.is("it changes nothing", x.count(0), 0);
        x.set(2, age);
        Due.is("days at that age", x.days(60), 0);
        x.undo();
        x.set(2, age + 1);
        Due.is("a day more loses some", x.days(60) > 0 ? 1 : 0, 1);
        Due.is("lost by now", x.safeAge() > 0 ? 1 : 0, 1);
    }

    private static void safeAgeNone() {
        DriftingLevels x = Sample.withFourWrong();
        Due.is("wrong with each age", x.safeAge(), DriftingLevels.NOT_FOUND);
        Due.is("it records nothing", x.count(15), 2);
    }

    /** New cells hold 117 at most after a day, and some 124 after two. */
    private static void safeAgeOfOne() {
        DriftingLevels x = new DriftingLevels();
        x.fail(0, 0, 0);
        x.fail(0, 1, 236);
        Due.is("lower threshold", x.row(0, 4), 118);
        Due.is("safeAge()", x.safeAge(), 1);
        x.set(2, 99);
        Due.is("whatever setting 2 is", x.safeAge(), 1);
    }

    /** By 1 a day, the cell of 107 alone comes to 167 in 60 days, and once written anew that of 108 to 168. */
    private static void safeAgeOnTheLastDay() {
        DriftingLevels x = new DriftingLevels();
        x.rate(0, 1);
        x.fail(0, 0, 0);
        x.fail(0, 1, 334);
        Due.is("one is lost on the day 60", x.safeAge(), 59);
        DriftingLevels y = new DriftingLevels();
        y.rate(0, 1);
        y.fail(0, 0, 0);
        y.fail(0, 1, 336);
        Due.is("none in 60 days", y.safeAge(), 60);
        y.days(59);
        Due.is("one would be lost on the day 61", y.safeAge(), 60);
        y.days(1);
        Due.is("one is lost on the first day", y.safeAge(), DriftingLevels.NOT_FOUND);
    }

    private static void worst() {
        DriftingLevels x = new DriftingLevels();
        for (int rank = 0; rank < 6; rank++) {
            Due.is("all alike", x.worst(rank), rank);
        }
        x.fail(4, 0, 0);
        x.fail(4, 1, 180);
        x.fail(2, 0, 0);
        x.fail(2, 1, 202);
        x.fail(5, 0, 0);
        x.fail(5, 1, 200);
        Due.is("row(4, 6)", x.row(4, 6), 8);
        Due.is("row(2, 6)", x.row(2, 6), 4);
        Due.is("row(5, 6)", x.row(5, 6), 4);
        int[] due = {4, 2, 5, 0, 1, 3};
        for (int rank = 0; rank < 6; rank++) {
            Due.is("worst(" + rank + ")", x.worst(rank), due[rank]);
        }
        Due.invalid("worst(-1)", x.worst(-1));
        Due.invalid("worst(6)", x.worst(6));
    }

    private static void mean() {
        DriftingLevels x = new DriftingLevels();
        // The errors of 42 cells are each of -10 to 10 twice, those of the last six 37 together.
        Due.is("257 / 48", x.mean(), Float.floatToIntBits(257f / 48f));
        x.write(0, 0, 2);
        Due.is("its error is 1, no more 10", x.mean(), Float.floatToIntBits(248f / 48f));
        x.rate(0, 200);
        x.days(99);
        Due.is("a high mean", x.mean(), Float.floatToIntBits(sumOfDistances(x) / 48f));
        Due.is("above 256", Float.intBitsToFloat(x.mean()) > 256f ? 1 : 0, 1);
    }

    /** All cells come to the middle, which then goes away from their aim. */
    private static void meanOfPowersOfTwo() {
        DriftingLevels x = new DriftingLevels();
        for (int row = 0; row < 6; row++) {
            x.fill(row, 3280);
        }
        x.days(10);
        Due.is("none", x.mean(), 0);
        int[] far = {1, 2, 3, 4, 8, 16, 32, 64, 128, 200};
        for (int distance : far) {
            x.set(0, 500 + distance);
            x.days(99);
            Due.is("mean of " + distance, x.mean(), Float.floatToIntBits(distance));
        }
    }

    private static float sumOfDistances(DriftingLevels x) {
        int sum = 0;
        for (int place = 0; place < 48; place++) {
            sum += Math.abs(x.cell(place / 8, place % 8, 1) - 100 - 400 * x.cell(place / 8, place % 8, 0));
        }
        return sum;
    }

    private static void share() {
        DriftingLevels x = Sample.withFourWrong();
        Due.is("nothing was asked", x.share(), DriftingLevels.NOT_FOUND);
        x.ask(0, 1);
        Due.is("none right", x.share(), 0);
        x.ask(0, 0);
        Due.is("1 / 2", x.share(), Float.floatToIntBits(0.5f));
        x.ask(0, 1);
        Due.is("1 / 3", x.share(), Float.floatToIntBits(1f / 3f));
        x.write(1, 0, 2);
        x.ask(1, 0);
        x.write(1, 1, 1);
        x.ask(1, 1);
        Due.is("3 / 5", x.share(), Float.floatToIntBits(3f / 5f));
        for (int asked = 6; asked < 240; asked++) {
            x.ask(0, 1);
            Due.is("3 / " + asked, x.share(), Float.floatToIntBits(3f / asked));
        }
        DriftingLevels y = new DriftingLevels();
        y.ask(0, 0);
        Due.is("all right", y.share(), Float.floatToIntBits(1f));
    }

    private static void countNumbers() {
        DriftingLevels x = Sample.withFourWrong();
        x.ask(0, 0);
        x.ask(0, 1);
        x.ask(0, 1);
        x.write(3, 0, 1);
        x.fill(4, 6560);
        x.anew(0);
        x.anew(5);
        x.days(7);
        Due.type(x, "a0;");
        Due.is("count(0)", x.count(0), 7);
        Due.is("count(6)", x.count(6), 2);
        Due.is("count(7)", x.count(7), 4);
        Due.is("count(8)", x.count(8), 25);
        Due.is("count(9)", x.count(9), 2);
        Due.is("count(10)", x.count(10), 3);
        Due.is("count(11)", x.count(11), 2);
        Due.is("count(12)", x.count(12), 48 - 4 - 1 - 8);
        Due.is("count(13)", x.count(13), 5);
        Due.is("count(14)", x.count(14), 8);
        Due.is("count(15)", x.count(15), 4);
        Due.is("count(16)", x.count(16), 3);
        Due.is("count(20)", x.count(20), 500);
        Due.is("count(21)", x.count(21), 40);
        Due.is("count(22)", x.count(22), 0);
    }

    private static void countSets() {
        DriftingLevels x = Sample.withFourWrong();
        x.fail(4, 0, 0);
        x.fail(4, 1, 180);
        Due.is("count(1)", x.count(1), 12);
        Due.is("count(2)", x.count(2), 17);
        DriftingLevels y = new DriftingLevels();
        y.write(3, 1, 1);
        y.fail(3, 0, 0);
        y.fail(3, 1, 220);
        // Of the row 3 all are below 110 but the cell 1, of the level 1.
        Due.is("count(2) of none", y.count(2), 0);
        y.mend(3, 1);
        y.fail(3, 1, 100);
        y.mend(3, 0);
        y.fail(3, 0, 60);
        y.days(1);
        Due.is("count(2) of the row 3", y.count(2), 8);
        // By 80 and 496 all are told wrong: the cell 1, with 501, is told 2.
        Due.is("count(1) of the row 3", y.count(1), 8);
        onlyOneWrong();
        Due.is("count(3)", x.count(3), 63);
        Due.is("count(4)", x.count(4), 0);
        Due.is("count(5)", x.count(5), 0);
        x.fail(1, 1, 0);
        x.fail(2, 1, 0);
        x.fail(3, 1, 0);
        Due.is("count(3)", x.count(3), 1 + 16 + 32);
        Due.is("count(4)", x.count(4), 2 + 8);
        Due.is("count(5)", x.count(5), 4);
    }

    /** The lower threshold 107 of the row 0 is reached by one of its cells. */
    private static void onlyOneWrong() {
        DriftingLevels x = new DriftingLevels();
        x.fail(0, 0, 0);
        x.fail(0, 1, 214);
        Due.is("count(1) of one cell", x.count(1), 1);
        Due.is("count(2) of one cell", x.count(2), 1);
        Due.is("wrongIn(0) of one cell", x.wrongIn(0), 0);
        Due.is("anew(0) of one cell", x.anew(0), 1);
    }

    private static void countOutside() {
        DriftingLevels x = new DriftingLevels();
        int[] outside = {Integer.MIN_VALUE, -1, 17, 18, 19, 23, 24, Integer.MAX_VALUE};
        for (int what : outside) {
            Due.invalid("count(" + what + ")", x.count(what));
        }
    }

    private static void undo() {
        DriftingLevels x = new DriftingLevels();
        Due.is("nothing to undo", x.undo(), DriftingLevels.NOT_POSSIBLE);
        for (int rate = 1; rate <= 6; rate++) {
            x.rate(0, rate);
            Due.is("states", x.count(15), Math.min(rate, 4));
        }
        x.rate(0, 0);
        Due.is("an error records nothing", x.count(15), 4);
        for (int left = 3; left >= 0; left--) {
            Due.is("undo()", x.undo(), left);
            Due.is("states", x.count(15), left);
            Due.is("the rate then", x.row(0, 8), left + 2);
        }
        Due.is("the oldest were dropped", x.undo(), DriftingLevels.NOT_POSSIBLE);
        Due.is("the rate stays", x.row(0, 8), 2);
        x.rate(0, 50);
        x.rate(0, 60);
        Due.is("undo()", x.undo(), 1);
        x.rate(0, 70);
        Due.is("undo()", x.undo(), 1);
        Due.is("the rate then", x.row(0, 8), 50);
        Due.is("undo()", x.undo(), 0);
        Due.is("the rate then", x.row(0, 8), 2);
    }

    private static void undoRestoresAll() {
        DriftingLevels x = manyChanged();
        Due.type(x, "w3,3,2;f1,1,7;m0,0;r4,44;d3;a5;d9;w0,0,1;a0;d1;");
        Due.is("play()", x.play(), 10);
        Due.is("undo of play", x.undo(), 3);
        Due.same("what was, and what is", Picture.of(x), Picture.of(manyChanged()));
        Due.is("the text stays", x.count(16), 47);
        x.clearText();
        x.undo();
        Due.is("the text is not restored", x.count(16), 0);
    }

    private static DriftingLevels manyChanged() {
        DriftingLevels x = Sample.withFourWrong();
        x.ask(0, 1);
        x.set(0, 400);
        x.set(1, 30);
        x.set(2, 2);
        x.rate(0, 100);
        return x;
    }

    private static void undoOfEachChange() {
        for (int which = 0; which < 10; which++) {
            DriftingLevels x = aheadOfAChange();
            Due.is("errors of change " + which, change(x, which) < 0 ? 1 : 0, 0);
            Due.is("undo of change " + which, x.undo(), 3);
            Due.same("what was ahead of, and is after change " + which, Picture.of(x), Picture.of(aheadOfAChange()));
        }
    }

    private static DriftingLevels aheadOfAChange() {
        DriftingLevels x = Sample.withFourWrong();
        x.anew(0);
        x.days(2);
        x.fill(5, 1234);
        x.days(3);
        Due.type(x, "a0;");
        return x;
    }

    private static int change(DriftingLevels x, int which) {
        switch (which) {
            case 0: return x.write(5, 3, 2);
            case 1: return x.fill(5, 6560);
            case 2: return x.anew(5);
            case 3: return x.ask(5, 3);
            case 4: return x.fail(5, 2, 7);
            case 5: return x.mend(0, 1);
            case 6: return x.rate(5, 9);
            case 7: return x.days(9);
            case 8: return x.set(1, 9);
            default: return x.play();
        }
    }
}
