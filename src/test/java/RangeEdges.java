import java.util.regex.Matcher;
import java.util.regex.Pattern;

/** The head and the ranges of each promise: their first and last numbers are taken, those beside them refused. */
final class RangeEdges {
    private static final Pattern HEAD = Pattern.compile("`(int )?(\\w+)\\(([^)]*)\\)`");
    private static final String ANY = "INVALID_ARGUMENT if an argument is out of range";
    private static final String ROW = "INVALID_ARGUMENT if row is out of range";
    private static final String WHAT = "INVALID_ARGUMENT if what is out of range";

    private RangeEdges() {
    }

    static void all() {
        heads();
        changes();
        settings();
        whatThereIs();
        whatWouldBe();
        count();
        texts();
    }

    private static void heads() {
        for (int promise = 1; promise <= 26; promise++) {
            String section = "Promise " + promise;
            Matcher head = HEAD.matcher(Doc.text(section));
            Due.is("heads of " + section, head.find() ? 1 : 0, 1);
            Doc.quote(section, head.group());
            int parameters = head.group(3).isEmpty() ? 0 : head.group(3).split(",").length;
            Due.is(head.group() + " is there", isThere(head.group(2), parameters) ? 1 : 0, 1);
        }
    }

    private static boolean isThere(String name, int parameters) {
        Class<?>[] types = new Class<?>[parameters];
        java.util.Arrays.fill(types, int.class);
        try {
            if (name.equals("DriftingLevels")) {
                return DriftingLevels.class.getConstructor(types) != null;
            }
            return DriftingLevels.class.getMethod(name, types).getReturnType() == int.class;
        } catch (NoSuchMethodException none) {
            return false;
        }
    }

    private static void changes() {
        range("Promise 2", "`row`: 0 to 5", 0, 5, "write", 0, 2, 3, 1);
        range("Promise 2", "`cell`: 0 to 7", 0, 7, "write", 1, 2, 3, 1);
        range("Promise 2", "`level`: 0 to 2", 0, 2, "write", 2, 2, 3, 1);
        outside("Promise 2", ANY, "write", 6, 8, 3);
        range("Promise 3", "`row`: 0 to 5", 0, 5, "fill", 0, 2, 1234);
        range("Promise 3", "`word`: 0 to 6560", 0, 6560, "fill", 1, 2, 1234);
        outside("Promise 3", ANY, "fill", -1, -1);
        range("Promise 4", "`row`: 0 to 5", 0, 5, "anew", 0, 2);
        outside("Promise 4", ROW, "anew", 6);
        range("Promise 5", "`row`: 0 to 5", 0, 5, "ask", 0, 2, 3);
        range("Promise 5", "`cell`: 0 to 7", 0, 7, "ask", 1, 2, 3);
        outside("Promise 5", ANY, "ask", 6, 8);
        range("Promise 6", "`row`: 0 to 5", 0, 5, "fail", 0, 2, 1, 300);
        range("Promise 6", "`guard`: 0 to 2", 0, 2, "fail", 1, 2, 1, 300);
        range("Promise 6", "`value`: 0 to 999", 0, 999, "fail", 2, 2, 1, 300);
        outside("Promise 6", ANY, "fail", -1, 3, 1000);
        range("Promise 7", "`row`: 0 to 5", 0, 5, "mend", 0, 2, 1);
        range("Promise 7", "`guard`: 0 to 2", 0, 2, "mend", 1, 2, 1);
        outside("Promise 7", ANY, "mend", 6, 3);
        range("Promise 8", "`row`: 0 to 5", 0, 5, "rate", 0, 2, 30);
        range("Promise 8", "`rate`: 1 to 200", 1, 200, "rate", 1, 2, 30);
        outside("Promise 8", ANY, "rate", 6, 0);
        range("Promise 9", "`many`: 1 to 99", 1, 99, "days", 0, 5);
        outside("Promise 9", "INVALID_ARGUMENT if many is out of range", "days", -99);
    }

    /** A value of 99 is in the ranges of the settings 1 and 2, and one of 300 in those of 0 and 1. */
    private static void settings() {
        Doc.quote("Promise 10", "`what`: 0 to 2");
        taken("set", 0, 300);
        taken("set", 2, 99);
        for (int value : new int[] {0, 50, 300, 500}) {
            refused("set", -1, value);
            refused("set", 3, value);
            refused("set", Integer.MIN_VALUE, value);
            refused("set", Integer.MAX_VALUE, value);
        }
        range("Promise 10", "`value`: a value in its range", 300, 700, "set", 1, 0, 400);
        range("Promise 10", "`value`: a value in its range", 1, 300, "set", 1, 1, 50);
        range("Promise 10", "`value`: a value in its range", 0, 99, "set", 1, 2, 50);
        range("Settings", "0 the middle (300 to 700", 300, 700, "set", 1, 0, 400);
        range("Settings", "1 how far guards are to be apart (1 to 300", 1, 300, "set", 1, 1, 50);
        range("Settings", "2 the age at which a row is written anew (0 to 99", 0, 99, "set", 1, 2, 50);
        outside("Promise 10", ANY, "set", 3, 1000);
    }

    private static void whatThereIs() {
        range("Promise 11", "`row`: 0 to 5", 0, 5, "cell", 0, 2, 3, 1);
        range("Promise 11", "`cell`: 0 to 7", 0, 7, "cell", 1, 2, 3, 1);
        range("Promise 11", "`what`:", 0, 7, "cell", 2, 2, 3, 1);
        outside("Promise 11", ANY, "cell", 6, 8, 8);
        range("Promise 12", "`row`: 0 to 5", 0, 5, "guard", 0, 2, 1, 0);
        range("Promise 12", "`guard`: 0 to 2", 0, 2, "guard", 1, 2, 1, 0);
        range("Promise 12", "`what`:", 0, 1, "guard", 2, 2, 1, 0);
        outside("Promise 12", ANY, "guard", 6, 3, 2);
        range("Promise 13", "`row`: 0 to 5", 0, 5, "row", 0, 2, 4);
        range("Promise 13", "`what`:", 0, 13, "row", 1, 2, 4);
        outside("Promise 13", ANY, "row", 6, 14);
        range("Promise 14", "`level`: 0 to 2", 0, 2, "table", 0, 1, 1);
        range("Promise 14", "`told`: 0 to 2", 0, 2, "table", 1, 1, 1);
        outside("Promise 14", ANY, "table", 3, 3);
    }

    private static void whatWouldBe() {
        range("Promise 15", "`row`: 0 to 5", 0, 5, "wrongIn", 0, 2);
        outside("Promise 15", ROW, "wrongIn", -1);
        range("Promise 16", "`row`: 0 to 5", 0, 5, "rightFor", 0, 2);
        outside("Promise 16", ROW, "rightFor", -1);
        range("Promise 18", "`rank`: 0 to 5", 0, 5, "worst", 0, 2);
        outside("Promise 18", "INVALID_ARGUMENT if rank is out of range", "worst", 6);
    }

    /** The numbers 17 to 19 stand for nothing. */
    private static void count() {
        range("Promise 21", "`what`:", 0, 22, "count", 0, 3);
        Doc.quote("Promise 21", "16: the length of the text; 20 to 22: the settings 0 to 2");
        taken("count", 16);
        taken("count", 20);
        Doc.quote("Promise 21", WHAT);
        refused("count", 17);
        refused("count", 18);
        refused("count", 19);
    }

    private static void texts() {
        range("Promise 23", "`character`: 32 to 126", 32, 126, "type", 0, 'a');
        outside("Promise 23", "INVALID_ARGUMENT if character is out of range", "type", 10);
        range("Promise 25", "`what`:", 0, 2, "fault", 0, 1);
        outside("Promise 25", WHAT, "fault", -1);
    }

    /** One of the arguments of a call at the edges of its range, while the others are in theirs. */
    private static void range(String section, String words, int least, int most, String name, int place, int... a) {
        Doc.quote(section, words);
        taken(name, with(a, place, least));
        taken(name, with(a, place, most));
        for (int number : new int[] {least - 1, most + 1, most + 256, Integer.MIN_VALUE, Integer.MAX_VALUE}) {
            refused(name, with(a, place, number));
        }
    }

    private static void outside(String section, String words, String name, int... a) {
        Doc.quote(section, words);
        refused(name, a);
    }

    private static int[] with(int[] a, int place, int number) {
        int[] other = a.clone();
        other[place] = number;
        return other;
    }

    private static void taken(String name, int... a) {
        int answer = Calls.answer(new DriftingLevels(), name, a);
        Due.is("refusals of " + Calls.told(name, a), answer == Calls.INVALID ? 1 : 0, 0);
    }

    private static void refused(String name, int... a) {
        DriftingLevels x = new DriftingLevels();
        Due.invalid(Calls.told(name, a), Calls.answer(x, name, a));
        Due.same("a new object, and one after " + Calls.told(name, a), Picture.of(x), Picture.of(new DriftingLevels()));
        Due.is("states after it", x.count(15), 0);
        Due.is("characters after it", x.count(16), 0);
    }
}
