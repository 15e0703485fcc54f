import java.io.IOException;
import java.nio.file.Files;
import java.nio.file.Path;

/** The document ahead of "Terms": what the class is, phrase by phrase, how often it is used, and its face. */
final class FirstEdges {
    private static final String SECTION = "What it is";
    private static final int MOST_CALLS = 512;

    private FirstEdges() {
    }

    static void all() throws IOException {
        levelsThatDrift();
        ratesAndErrors();
        guardsTell();
        noLongerApart();
        toldWrong();
        writtenByAge();
        failedAndMended();
        whatWouldBe();
        wordsAndTable();
        sharesAndMeans();
        orders();
        lastCalls();
        lastChanges();
        face();
    }

    private static void levelsThatDrift() {
        Doc.quote(SECTION, "Cells of three levels whose values drift to the middle", "rows of cells and guards",
            "values that come near a middle day by day");
        DriftingLevels x = new DriftingLevels();
        int[] aims = {100, 500, 900};
        int[] aDayLater = {108, 500, 892};
        for (int level = 0; level < 3; level++) {
            x.write(1, level, level);
            Due.is("a level", x.cell(1, level, 0), level);
            Due.is("a guard", x.guard(1, level, 0), aims[level]);
        }
        Due.invalid("a fourth level", x.write(1, 0, 3));
        x.days(1);
        for (int level = 0; level < 3; level++) {
            Due.is("a guard a day later", x.guard(1, level, 0), aDayLater[level]);
        }
        x.days(99);
        x.days(99);
        for (int cell = 0; cell < 8; cell++) {
            Due.is("a cell in the end", x.cell(1, cell, 1), 500);
        }
    }

    private static void ratesAndErrors() {
        Doc.quote(SECTION, "rates of rows");
        DriftingLevels x = new DriftingLevels();
        x.rate(1, 200);
        x.days(1);
        Due.is("400 * 20 / 1000", x.guard(0, 0, 0), 108);
        Due.is("400 * 200 / 1000", x.guard(1, 0, 0), 180);
        Doc.quote(SECTION, "small errors of writing");
        Due.is("once more", x.write(0, 0, 0), 101);
        Due.is("twice more", x.write(0, 0, 0), 91);
        Due.is("three times more", x.write(0, 0, 0), 102);
    }

    private static void guardsTell() {
        DriftingLevels x = new DriftingLevels();
        x.days(2);
        Doc.quote(SECTION, "thresholds that follow the guards");
        // 100, 108, 115 and 900, 892, 885
        Due.is("(115 + 500) / 2", x.row(2, 0), 307);
        Due.is("(500 + 885) / 2", x.row(2, 1), 692);
        Doc.quote(SECTION, "told by guards beside them", "what is told by which thresholds");
        DriftingLevels y = Sample.withFourWrong();
        Due.is("106 by 100", y.cell(0, 1, 2), 1);
        Due.is("106 by 300", y.cell(0, 1, 4), 0);
        Due.is("90 by 100", y.cell(0, 0, 2), 0);
        y.mend(0, 1);
        y.fail(0, 1, 600);
        Due.is("106 by 300 of the guards", y.cell(0, 1, 2), 0);
    }

    /** At the rate 200 the guard 0 is 44 from the guard 1 after ten days, and 36 after eleven. */
    private static void noLongerApart() {
        DriftingLevels x = new DriftingLevels();
        x.rate(0, 200);
        x.days(10);
        Doc.quote(SECTION, "rows whose guards are no longer apart");
        Due.is("44 apart", x.row(0, 2), 1);
        x.days(1);
        Due.is("36 apart", x.row(0, 2), 0);
        Doc.quote(SECTION, "thresholds of the rows beside");
        Due.is("the source", x.row(0, 3), 1);
        Due.is("the lower one of the row 1", x.row(0, 4), x.row(1, 0));
        Due.is("the upper one of the row 1", x.row(0, 5), x.row(1, 1));
        Doc.quote(SECTION, "fixed thresholds");
        x.fail(1, 1, 0);
        Due.is("the source", x.row(0, 3), 2);
        Due.is("the lower one", x.row(0, 4), 300);
        Due.is("the upper one", x.row(0, 5), 700);
    }

    private static void toldWrong() {
        Doc.quote(SECTION, "cells that are told wrong");
        Due.is("four of a row", Sample.withFourWrong().row(0, 6), 4);
        Due.is("four of all", Sample.withFourWrong().count(1), 4);
        Doc.quote(SECTION, "levels that are lost by that");
        DriftingLevels x = Sample.withFourWrong();
        Due.is("lost by anew", x.anew(0), 4);
        Due.is("lost so far", x.count(7), 4);
        DriftingLevels y = Sample.withFourWrong();
        y.set(2, 1);
        // 96 and 97 come to 104 and 105, but 90 and 91 to 98 and 99, below 100 still.
        Due.is("lost by age", y.days(1), 6);
        Due.is("lost so far", y.row(0, 12), 6);
    }

    private static void writtenByAge() {
        Doc.quote(SECTION, "rows that are written anew by age");
        DriftingLevels x = new DriftingLevels();
        x.set(2, 3);
        x.days(2);
        Due.is("of two days", x.count(9), 0);
        x.days(1);
        Due.is("of three days", x.count(9), 6);
        Due.is("young again", x.row(4, 9), 0);
    }

    private static void failedAndMended() {
        Doc.quote(SECTION, "guards that fail and are mended");
        DriftingLevels x = new DriftingLevels();
        Due.is("fail(2, 1, 7)", x.fail(2, 1, 7), 500);
        Due.is("it has failed", x.guard(2, 1, 1), 1);
        x.days(9);
        Due.is("mend(2, 1)", x.mend(2, 1), 7);
        Due.is("it has failed no more", x.guard(2, 1, 1), 0);
    }

    private static void whatWouldBe() {
        DriftingLevels x = new DriftingLevels();
        x.rate(4, 200);
        Doc.quote(SECTION, "in how many days a row is told wrong");
        Due.is("when it is told by the rows beside", x.wrongIn(4), 11);
        x.days(11);
        Due.is("now", x.wrongIn(4), 0);
        x.undo();
        Doc.quote(SECTION, "how old rows may become");
        Due.is("as long as its own thresholds are right", x.safeAge(), 10);
        Doc.quote(SECTION, "which row is worst");
        Due.is("none is told wrong", x.worst(0), 0);
        x.days(11);
        Due.is("one is", x.worst(0), 4);
    }

    private static void wordsAndTable() {
        DriftingLevels x = Sample.withFourWrong();
        Doc.quote(SECTION, "words of cells");
        Due.is("told", x.row(0, 10), 3 + 9 + 243 + 729);
        Due.is("as levels", x.row(0, 11), 0);
        Due.is("filled", x.fill(3, 6560), 0);
        Due.is("the word then", x.row(3, 11), 6560);
        Doc.quote(SECTION, "a table of what was told for what");
        x.ask(0, 1);
        x.ask(3, 0);
        Due.is("1 for 0", x.table(0, 1), 1);
        Due.is("2 for 2", x.table(2, 2), 1);
        Due.is("0 for 0", x.table(0, 0), 0);
    }

    private static void sharesAndMeans() {
        Doc.quote(SECTION, "shares and means");
        DriftingLevels x = Sample.withFourWrong();
        x.ask(0, 1);
        x.ask(0, 0);
        Due.is("one of two", x.share(), Float.floatToIntBits(0.5f));
        int far = 0;
        for (int place = 0; place < 48; place++) {
            far += Math.abs(x.cell(place / 8, place % 8, 1) - 100);
        }
        Due.is("of all cells", x.mean(), Float.floatToIntBits(far / 48f));
    }

    private static void orders() {
        Doc.quote(SECTION, "orders as texts with places, reasons and causes of faults");
        DriftingLevels x = Sample.withText("d9;m3,0;");
        Due.is("the place", x.fault(0), 3);
        Due.is("the reason", x.fault(1), 2);
        Due.is("the cause", x.fault(2), Calls.NOT_POSSIBLE);
        Due.is("not played", x.play(), Calls.NOT_POSSIBLE);
        x.fail(3, 0, 1);
        Due.is("played", x.play(), 2);
        Due.is("the day", x.count(0), 9);
    }

    /** The last call of an object answers as the first ones do; later ones answer something, and nothing is thrown. */
    private static void lastCalls() {
        Doc.quote(SECTION, "An object is used for at most 512 calls after it has been made;");
        DriftingLevels days = new DriftingLevels();
        for (int call = 1; call < MOST_CALLS; call++) {
            days.days(19);
        }
        Due.is("the call 512: the day", days.count(0), 19 * (MOST_CALLS - 1));
        DriftingLevels text = new DriftingLevels();
        for (int call = 1; call < MOST_CALLS; call++) {
            text.type('a');
        }
        Due.is("the call 512: the text", text.type('a'), Calls.LIMIT);
        Doc.quote(SECTION, "what later calls answer is free.");
        int thrown = 0;
        try {
            for (int call = 0; call < MOST_CALLS; call++) {
                days.days(99);
                days.anew(call % 6);
                text.fault(call % 3);
                text.undo();
            }
        } catch (RuntimeException late) {
            thrown++;
        }
        Due.is("thrown by later calls", thrown, 0);
    }

    private static void lastChanges() {
        Doc.quote(SECTION, "An object is used for at most 512 calls after it has been made;");
        DriftingLevels x = new DriftingLevels();
        for (int call = 1; call <= 506; call++) {
            x.write(0, 0, call % 3);
        }
        for (int left = 3; left >= 0; left--) {
            Due.is("states left", x.undo(), left);
        }
        Due.is("the call 511: written as on the call 502", x.cell(0, 0, 5), 503);
        Due.is("the call 512", x.undo(), Calls.NOT_POSSIBLE);
    }

    /** Each line of the document's class stands in the source: its names, its parameters, and no other of them. */
    private static void face() throws IOException {
        String section = "The public face";
        String source = Files.readString(Path.of(System.getProperty("source")));
        int lines = 0;
        for (String line : Doc.text(section).split("\n")) {
            if (!line.isEmpty()) {
                Doc.quote(section, line);
                lines++;
                boolean isMark = line.startsWith("```");
                Due.is("times that the source has it", isMark ? 1 : times(declared(line), source), 1);
            }
        }
        Doc.quote(section, "```java");
        Due.is("lines of the face", lines, 34);
        // The class, its constants, its constructor and its methods.
        Due.is("public things of the source", source.split("\\bpublic ", -1).length - 1, 31);
    }

    /** The head of a method ends with its body in the source, and with ";" in the document. */
    private static String declared(String line) {
        return "\n" + (line.endsWith(");") ? line.substring(0, line.length() - 1) + " {" : line) + "\n";
    }

    private static int times(String words, String source) {
        return (source.length() - source.replace(words, "").length()) / words.length();
    }
}
