import java.util.Map;
import java.util.Random;
import java.util.TreeMap;

/** All promises: runs of 512 calls, drawn from fixed seeds, on the class and on the plain model of the document. */
public final class ModelTest {
    private static final int RUNS = 600;
    private static final int CALLS = 512;
    private static final int ROOM_AT_THE_END = 50;
    private static final String[] ORDERS = {"w", "a", "f", "m", "r", "d"};
    private static final int[] NUMBERS = {3, 1, 3, 2, 2, 1};
    private static final int[][] RANGES = {{300, 700}, {1, 300}, {0, 99}};

    private final Random random;
    private final DriftingLevels x = new DriftingLevels();
    private final PlainModel model = new PlainModel();
    private final int seed;
    private int calls;
    private final boolean calm;
    private static final Map<String, Integer> seen = new TreeMap<>();

    private ModelTest(int seed) {
        this.seed = seed;
        random = new Random(seed);
        calm = seed % 2 == 0;
    }

    public static void main(String[] args) {
        for (int seed = 0; seed < RUNS; seed++) {
            new ModelTest(seed).run();
        }
        edges();
        for (String must : new String[] {"wrongIn 0", "wrongIn +", "wrongIn -4", "rightFor 0", "rightFor +",
            "rightFor -4", "safeAge +", "safeAge -4", "days 0", "days +", "days -3", "anew 0", "anew +", "undo 0",
            "undo +", "undo -2", "play 0", "play +", "play -2", "fault 0", "fault +", "fault -1", "fault -2",
            "fault -3", "fault -4", "type -3", "share 0", "share +", "share -4", "fail -2", "mend -2", "mend +"}) {
            Due.is("times that " + must + " was seen is above 0", seen.containsKey(must) ? 1 : 0, 1);
        }
        Due.end();
    }

    private void run() {
        while (calls < CALLS) {
            if (random.nextInt(100) < (calm ? 35 : 55)) {
                change();
            } else if (random.nextInt(100) < 30) {
                text();
            } else {
                look();
            }
        }
    }

    private void same(String call, int got, int want) {
        calls++;
        Due.is("seed " + seed + ": " + call, got, want);
        String sign = want == 0 ? " 0" : want > 0 ? " +" : " -" + (-want - 1000000);
        seen.merge(call.substring(0, call.indexOf('(')) + sign, 1, Integer::sum);
    }

    /** Mostly 0 to most, now and then beside it. */
    private int upTo(int most) {
        if (random.nextInt(60) == 0) {
            int[] outside = {-1, most + 1, Integer.MIN_VALUE, Integer.MAX_VALUE};
            return outside[random.nextInt(4)];
        }
        return random.nextInt(most + 1);
    }

    private void change() {
        int r = upTo(5);
        switch (random.nextInt(calm ? 12 : 11)) {
            case 0: both("write", r, upTo(7), upTo(2)); break;
            case 1: both("fill", r, upTo(6560)); break;
            case 2: both("anew", r); break;
            case 3: both("ask", r, upTo(7)); break;
            case 4: both("fail", r, upTo(2), guardValue()); break;
            case 5: both("mend", r, upTo(2)); break;
            case 6: both("rate", r, random.nextBoolean() ? 1 + upTo(199) : 1 + upTo(40)); break;
            case 7: both("set", upTo(2), setting()); break;
            case 8: set(); break;
            case 9: both("undo"); break;
            default: both("days", random.nextBoolean() ? 1 + upTo(98) : 1 + upTo(9)); break;
        }
    }

    /** Some near the aims, so that rows are right now and then, with thresholds of their own. */
    private int guardValue() {
        return random.nextBoolean() ? upTo(999) : 100 + 400 * random.nextInt(3) + random.nextInt(200) - 100;
    }

    private int setting() {
        return random.nextBoolean() ? 300 + upTo(400) : 1 + upTo(99);
    }

    private void set() {
        int what = random.nextInt(3);
        int[] range = RANGES[what];
        both("set", what, range[0] + random.nextInt(range[1] - range[0] + 1));
    }

    private void both(String name, int... a) {
        int got = Calls.answer(x, name, a);
        same(Calls.told(name, a), got, name.equals("undo") ? model.undo() : model.change(name, a));
    }

    private void look() {
        int r = upTo(5);
        int what = upTo(13);
        int c = upTo(7);
        int g = upTo(2);
        switch (random.nextInt(12)) {
            case 0: same("cell(" + r + " " + c + " " + what % 9 + ")", x.cell(r, c, what % 9), model.cell(r, c, what % 9)); break;
            case 1: same("guard(" + r + " " + g + ")", x.guard(r, g, what % 3), model.guard(r, g, what % 3)); break;
            case 2:
            case 3: same("row(" + r + " " + what + ")", x.row(r, what), model.row(r, what)); break;
            case 4: same("table(" + g + ")", x.table(g, what % 3), model.table(g, what % 3)); break;
            case 5: same("wrongIn(" + r + ")", x.wrongIn(r), model.wrongIn(r)); break;
            case 6: same("rightFor(" + r + ")", x.rightFor(r), model.rightFor(r)); break;
            case 7: safeAge(); break;
            case 8: same("worst(" + r + ")", x.worst(r), model.worst(r)); break;
            case 9: same("mean()", x.mean(), model.mean()); break;
            case 10: same("share()", x.share(), model.share()); break;
            default: int all = upTo(23); same("count(" + all + ")", x.count(all), model.count(all)); break;
        }
    }

    /** The model takes long for it. */
    private void safeAge() {
        if (random.nextInt(3) == 0) {
            same("safeAge()", x.safeAge(), model.safeAge());
        }
    }

    private void text() {
        switch (random.nextInt(6)) {
            case 0: clearText(); typeOrders(); break;
            case 1: same("play()", x.play(), model.play()); break;
            case 2: int sign = 31 + random.nextInt(97); same("type(" + sign + ")", x.type(sign), model.type(sign)); break;
            default: int what = upTo(2); same("fault(" + what + ")", x.fault(what), model.fault(what)); break;
        }
    }

    private void clearText() {
        same("clearText()", x.clearText(), model.clearText());
    }

    private void typeOrders() {
        StringBuilder orders = new StringBuilder();
        for (int i = random.nextInt(random.nextInt(8) == 0 ? 20 : 6); i >= 0; i--) {
            int which = random.nextInt(6);
            orders.append(ORDERS[which]);
            for (int n = 0; n < NUMBERS[which]; n++) {
                int most = n == 1 && which != 4 ? 2 : n == 0 && which != 5 ? 5 : n == 2 && which == 0 ? 2 : 60;
                orders.append(n == 0 ? "" : ",").append(random.nextInt(40) == 0 ? random.nextInt(1200) : random.nextInt(most + 1));
            }
            orders.append(random.nextInt(40) == 0 ? "" : ";");
        }
        if (random.nextInt(6) == 0) {
            orders.setCharAt(random.nextInt(orders.length()), (char) (32 + random.nextInt(95)));
        }
        for (int i = 0; i < orders.length() && calls < CALLS - ROOM_AT_THE_END; i++) {
            same("type(" + orders.charAt(i) + ")", x.type(orders.charAt(i)), model.type(orders.charAt(i)));
        }
    }

    /** Near the last day, where orders and days meet the limit. */
    private static void edges() {
        ModelTest test = new ModelTest(RUNS);
        for (int i = 0; i < 100; i++) {
            test.both("days", 99);
        }
        test.both("fill", 0, 1234);
        while (test.calls < CALLS - ROOM_AT_THE_END) {
            test.text();
            test.both("days", 1 + test.random.nextInt(4));
            test.look();
        }
        test.clearText();
        for (char sign : "d1;d99;".toCharArray()) {
            test.same("type()", test.x.type(sign), test.model.type(sign));
        }
        for (int what = 0; what < 3; what++) {
            test.same("fault(" + what + ")", test.x.fault(what), test.model.fault(what));
        }
        test.same("wrongIn()", test.x.wrongIn(0), test.model.wrongIn(0));
        test.same("safeAge()", test.x.safeAge(), test.model.safeAge());
    }
}
