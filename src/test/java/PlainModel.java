import java.util.ArrayDeque;
import java.util.ArrayList;
import java.util.Deque;
import java.util.List;
import java.util.regex.Matcher;
import java.util.regex.Pattern;

/**
 * The document once more, written in another way and with the whole Java library, so that the class
 * can be compared with it. It copies, searches and parses where the class keeps, counts and steps.
 */
final class PlainModel {
    private static final int INVALID = -1000001;
    private static final int NOT_POSSIBLE = -1000002;
    private static final int LIMIT = -1000003;
    private static final int NOT_FOUND = -1000004;
    private static final Pattern ORDER = Pattern.compile(
        "[wf]\\d{1,3},\\d{1,3},\\d{1,3};|[mr]\\d{1,3},\\d{1,3};|[ad]\\d{1,3};");

    private static final class Cell {
        int level;
        int value;
        int written;
        int day;
    }

    private static final class Row {
        final Cell[] cells = new Cell[8];
        final int[] guards = {100, 500, 900};
        final boolean[] failed = new boolean[3];
        int rate = 20;
        int day;
        int lost;
        int anew;
    }

    private static final class World {
        final Row[] rows = new Row[6];
        final int[][] table = new int[3][3];
        final int[] settings = {500, 40, 0};
        int now;
        int writings;

        World() {
            for (int r = 0; r < 6; r++) {
                rows[r] = new Row();
                for (int c = 0; c < 8; c++) {
                    rows[r].cells[c] = new Cell();
                    put(r, c, 0);
                }
            }
            writings = 0;
        }

        World copy() {
            World w = new World();
            for (int r = 0; r < 6; r++) {
                Row from = rows[r];
                Row to = w.rows[r];
                for (int c = 0; c < 8; c++) {
                    to.cells[c].level = from.cells[c].level;
                    to.cells[c].value = from.cells[c].value;
                    to.cells[c].written = from.cells[c].written;
                    to.cells[c].day = from.cells[c].day;
                }
                for (int g = 0; g < 3; g++) {
                    to.guards[g] = from.guards[g];
                    to.failed[g] = from.failed[g];
                }
                to.rate = from.rate;
                to.day = from.day;
                to.lost = from.lost;
                to.anew = from.anew;
            }
            for (int l = 0; l < 3; l++) {
                w.table[l] = table[l].clone();
                w.settings[l] = settings[l];
            }
            w.now = now;
            w.writings = writings;
            return w;
        }

        void put(int r, int c, int level) {
            Cell cell = rows[r].cells[c];
            int error = Math.floorMod(37 * (8 * r + c) + 11 * cell.written, 21) - 10;
            cell.level = level;
            cell.value = new int[] {100, 500, 900}[level] + error;
            cell.written++;
            cell.day = now;
            writings++;
        }

        int[] own(int r) {
            int[] g = rows[r].guards;
            return new int[] {Math.floorDiv(g[0] + g[1], 2), Math.floorDiv(g[1] + g[2], 2)};
        }

        boolean right(int r) {
            int[] g = rows[r].guards;
            return g[1] >= g[0] + settings[1] && g[2] >= g[1] + settings[1];
        }

        List<int[]> beside(int r) {
            List<int[]> found = new ArrayList<>();
            for (int other : new int[] {r - 1, r + 1}) {
                if (other >= 0 && other <= 5 && right(other)) {
                    found.add(own(other));
                }
            }
            return found;
        }

        /** Source, lower, upper. */
        int[] by(int r) {
            if (right(r)) {
                return new int[] {0, own(r)[0], own(r)[1]};
            }
            List<int[]> found = beside(r);
            if (found.isEmpty()) {
                return new int[] {2, 300, 700};
            }
            int low = 0;
            int high = 0;
            for (int[] one : found) {
                low += one[0];
                high += one[1];
            }
            return new int[] {1, Math.floorDiv(low, found.size()), Math.floorDiv(high, found.size())};
        }

        static int tell(int value, int low, int high) {
            return value < low ? 0 : value >= high ? 2 : 1;
        }

        int told(int r, int c) {
            int[] by = by(r);
            return tell(rows[r].cells[c].value, by[1], by[2]);
        }

        int wrong(int r) {
            int wrong = 0;
            for (int c = 0; c < 8; c++) {
                wrong += told(r, c) != rows[r].cells[c].level ? 1 : 0;
            }
            return wrong;
        }

        int anew(int r) {
            int[] told = new int[8];
            int lost = 0;
            for (int c = 0; c < 8; c++) {
                told[c] = told(r, c);
                lost += told[c] != rows[r].cells[c].level ? 1 : 0;
            }
            for (int c = 0; c < 8; c++) {
                put(r, c, told[c]);
            }
            for (int g = 0; g < 3; g++) {
                if (!rows[r].failed[g]) {
                    rows[r].guards[g] = 100 + 400 * g;
                }
            }
            rows[r].day = now;
            rows[r].lost += lost;
            rows[r].anew++;
            return lost;
        }

        int drifted(int value, int rate) {
            int distance = Math.abs(value - settings[0]);
            int step = Math.max(Math.floorDiv(distance * rate, 1000), 1);
            return value == settings[0] ? value : value + (value < settings[0] ? step : -step);
        }

        int dayEnds() {
            for (Row row : rows) {
                for (Cell cell : row.cells) {
                    cell.value = drifted(cell.value, row.rate);
                }
                for (int g = 0; g < 3; g++) {
                    row.guards[g] = row.failed[g] ? row.guards[g] : drifted(row.guards[g], row.rate);
                }
            }
            now++;
            int lost = 0;
            for (int r = 0; r < 6; r++) {
                lost += settings[2] > 0 && now - rows[r].day >= settings[2] ? anew(r) : 0;
            }
            return lost;
        }

        /** A call by its name; what an order of the text does, too. */
        int change(String name, int... a) {
            boolean rowIn = name.equals("days") || name.equals("set") || in(a[0], 0, 5);
            if (!rowIn) {
                return INVALID;
            }
            switch (name) {
                case "write": return write(a[0], a[1], a[2]);
                case "fill": return fill(a[0], a[1]);
                case "anew": return anew(a[0]);
                case "ask": return ask(a[0], a[1]);
                case "fail": return fail(a[0], a[1], a[2]);
                case "mend": return mend(a[0], a[1]);
                case "rate": return rate(a[0], a[1]);
                case "days": return days(a[0]);
                case "set": return set(a[0], a[1]);
                default: throw new IllegalStateException(name);
            }
        }

        int write(int r, int c, int level) {
            if (!in(c, 0, 7) || !in(level, 0, 2)) {
                return INVALID;
            }
            put(r, c, level);
            return rows[r].cells[c].value;
        }

        int fill(int r, int word) {
            if (!in(word, 0, 6560)) {
                return INVALID;
            }
            String figures = Integer.toString(6561 + word, 3);
            int before = toldWord(r);
            for (int c = 0; c < 8; c++) {
                put(r, c, figures.charAt(figures.length() - 1 - c) - '0');
            }
            return before;
        }

        int toldWord(int r) {
            StringBuilder figures = new StringBuilder();
            for (int c = 0; c < 8; c++) {
                figures.append(told(r, c));
            }
            return Integer.parseInt(figures.reverse().toString(), 3);
        }

        int levelWord(int r) {
            StringBuilder figures = new StringBuilder();
            for (int c = 0; c < 8; c++) {
                figures.append(rows[r].cells[c].level);
            }
            return Integer.parseInt(figures.reverse().toString(), 3);
        }

        int ask(int r, int c) {
            if (!in(c, 0, 7)) {
                return INVALID;
            }
            table[rows[r].cells[c].level][told(r, c)]++;
            return told(r, c);
        }

        int fail(int r, int g, int value) {
            if (!in(g, 0, 2) || !in(value, 0, 999)) {
                return INVALID;
            }
            if (rows[r].failed[g]) {
                return NOT_POSSIBLE;
            }
            int had = rows[r].guards[g];
            rows[r].failed[g] = true;
            rows[r].guards[g] = value;
            return had;
        }

        int mend(int r, int g) {
            if (!in(g, 0, 2)) {
                return INVALID;
            }
            if (!rows[r].failed[g]) {
                return NOT_POSSIBLE;
            }
            rows[r].failed[g] = false;
            return rows[r].guards[g];
        }

        int rate(int r, int rate) {
            if (!in(rate, 1, 200)) {
                return INVALID;
            }
            int had = rows[r].rate;
            rows[r].rate = rate;
            return had;
        }

        int days(int many) {
            if (!in(many, 1, 99)) {
                return INVALID;
            }
            if (now + many > 9999) {
                return LIMIT;
            }
            int lost = 0;
            for (int i = 0; i < many; i++) {
                lost += dayEnds();
            }
            return lost;
        }

        int set(int what, int value) {
            int[][] ranges = {{300, 700}, {1, 300}, {0, 99}};
            if (!in(what, 0, 2) || !in(value, ranges[what][0], ranges[what][1])) {
                return INVALID;
            }
            int had = settings[what];
            settings[what] = value;
            return had;
        }
    }

    private World world = new World();
    private final Deque<World> history = new ArrayDeque<>();
    private String text = "";

    private static boolean in(int number, int least, int most) {
        return least <= number && number <= most;
    }

    int change(String name, int... a) {
        World before = world.copy();
        int answer = world.change(name, a);
        if (answer >= 0) {
            keep(before);
        }
        return answer;
    }

    private void keep(World before) {
        history.addLast(before);
        if (history.size() == 5) {
            history.removeFirst();
        }
    }

    int cell(int r, int c, int what) {
        if (!in(r, 0, 5) || !in(c, 0, 7) || !in(what, 0, 7)) {
            return INVALID;
        }
        Cell cell = world.rows[r].cells[c];
        int[] by = world.by(r);
        int[] own = world.own(r);
        return new int[] {cell.level, cell.value, world.told(r, c), World.tell(cell.value, own[0], own[1]),
            World.tell(cell.value, 300, 700), cell.written,
            Math.min(Math.abs(cell.value - by[1]), Math.abs(cell.value - by[2])), world.now - cell.day}[what];
    }

    int guard(int r, int g, int what) {
        if (!in(r, 0, 5) || !in(g, 0, 2) || !in(what, 0, 1)) {
            return INVALID;
        }
        return what == 0 ? world.rows[r].guards[g] : world.rows[r].failed[g] ? 1 : 0;
    }

    int row(int r, int what) {
        if (!in(r, 0, 5) || !in(what, 0, 13)) {
            return INVALID;
        }
        Row row = world.rows[r];
        int[] by = world.by(r);
        int wrongByFixed = 0;
        for (Cell cell : row.cells) {
            wrongByFixed += World.tell(cell.value, 300, 700) != cell.level ? 1 : 0;
        }
        return new int[] {world.own(r)[0], world.own(r)[1], world.right(r) ? 1 : 0, by[0], by[1], by[2],
            world.wrong(r), wrongByFixed, row.rate, world.now - row.day, world.toldWord(r), world.levelWord(r),
            row.lost, row.anew}[what];
    }

    int table(int level, int told) {
        return in(level, 0, 2) && in(told, 0, 2) ? world.table[level][told] : INVALID;
    }

    int wrongIn(int r) {
        if (!in(r, 0, 5)) {
            return INVALID;
        }
        World w = world.copy();
        int day = 0;
        while (w.wrong(r) == 0 && day <= 300) {
            w.dayEnds();
            day++;
        }
        return day <= 300 ? day : NOT_FOUND;
    }

    int rightFor(int r) {
        if (!in(r, 0, 5)) {
            return INVALID;
        }
        World w = world.copy();
        w.settings[2] = 0;
        int day = 0;
        while (w.right(r) && day <= 300) {
            w.dayEnds();
            day++;
        }
        return day <= 300 ? day : NOT_FOUND;
    }

    int safeAge() {
        int best = NOT_FOUND;
        for (int age = 1; age <= 60; age++) {
            World w = world.copy();
            w.settings[2] = age;
            int lost = 0;
            for (int day = 0; day < 60; day++) {
                lost += w.dayEnds();
            }
            best = lost == 0 ? age : best;
        }
        return best;
    }

    int worst(int rank) {
        if (!in(rank, 0, 5)) {
            return INVALID;
        }
        List<Integer> rows = new ArrayList<>(List.of(0, 1, 2, 3, 4, 5));
        rows.sort((a, b) -> world.wrong(b) - world.wrong(a));
        return rows.get(rank);
    }

    int mean() {
        int sum = 0;
        for (Row row : world.rows) {
            for (Cell cell : row.cells) {
                sum += Math.abs(cell.value - new int[] {100, 500, 900}[cell.level]);
            }
        }
        return Float.floatToIntBits((float) sum / (float) 48);
    }

    int share() {
        int asked = count(10);
        int right = world.table[0][0] + world.table[1][1] + world.table[2][2];
        return asked == 0 ? NOT_FOUND : Float.floatToIntBits((float) right / (float) asked);
    }

    int count(int what) {
        int[] c = new int[23];
        c[0] = world.now;
        for (int r = 0; r < 6; r++) {
            int wrong = world.wrong(r);
            c[1] += wrong;
            c[2] += wrong > 0 ? 1 << r : 0;
            c[3 + world.by(r)[0]] += 1 << r;
            c[7] += world.rows[r].lost;
            c[9] += world.rows[r].anew;
            for (int g = 0; g < 3; g++) {
                c[6] += world.rows[r].failed[g] ? 1 : 0;
            }
            for (Cell cell : world.rows[r].cells) {
                c[12 + cell.level]++;
            }
        }
        c[8] = world.writings;
        for (int[] ofLevel : world.table) {
            for (int times : ofLevel) {
                c[10] += times;
                c[11] += times > 0 ? 1 : 0;
            }
        }
        c[15] = history.size();
        c[16] = text.length();
        System.arraycopy(world.settings, 0, c, 20, 3);
        return in(what, 0, 16) || in(what, 20, 22) ? c[what] : INVALID;
    }

    int undo() {
        if (history.isEmpty()) {
            return NOT_POSSIBLE;
        }
        world = history.removeLast();
        return history.size();
    }

    int type(int character) {
        if (!in(character, 32, 126)) {
            return INVALID;
        }
        if (text.length() == 60) {
            return LIMIT;
        }
        text += (char) character;
        return text.length();
    }

    int clearText() {
        int had = text.length();
        text = "";
        return had;
    }

    /** Position, reason and cause, or null; what the orders ahead of it do is done in the world that is given. */
    private int[] fault(World w, int[] done) {
        int at = 0;
        while (at < text.length()) {
            String rest = text.substring(at);
            Matcher order = ORDER.matcher(rest);
            if (!order.lookingAt()) {
                return new int[] {at, 1, breaksOff(rest)};
            }
            int answer = give(w, order.group());
            if (answer < 0) {
                return new int[] {at, 2, answer};
            }
            done[0]++;
            at += order.end();
        }
        return null;
    }

    /** The longest beginning that some order begins with, too. */
    private static int breaksOff(String rest) {
        int longest = 0;
        for (int length = 1; length <= rest.length(); length++) {
            Matcher matcher = ORDER.matcher(rest.substring(0, length));
            if (matcher.matches() || matcher.hitEnd()) {
                longest = length;
            }
        }
        return longest;
    }

    private static int give(World w, String order) {
        String[] parts = order.substring(1, order.length() - 1).split(",");
        int[] a = new int[parts.length];
        for (int i = 0; i < a.length; i++) {
            a[i] = Integer.parseInt(parts[i]);
        }
        String[] names = {"write", "anew", "fail", "mend", "rate", "days"};
        return w.change(names["wafmrd".indexOf(order.charAt(0))], a);
    }

    int fault(int what) {
        if (!in(what, 0, 2)) {
            return INVALID;
        }
        int[] fault = fault(world.copy(), new int[1]);
        return fault == null ? NOT_FOUND : fault[what];
    }

    int play() {
        World after = world.copy();
        int[] done = new int[1];
        if (fault(after, done) != null) {
            return NOT_POSSIBLE;
        }
        keep(world);
        world = after;
        return done[0];
    }
}
