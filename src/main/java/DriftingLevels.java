/** Cells of three levels whose values drift to the middle, told by guards beside them. */
public final class DriftingLevels {
    public static final int INVALID_ARGUMENT = -1000001;
    public static final int NOT_POSSIBLE = -1000002;
    public static final int LIMIT_REACHED = -1000003;
    public static final int NOT_FOUND = -1000004;

    private static final int ROWS = 6;
    private static final int CELLS_OF_ROW = 8;
    private static final int CELLS = ROWS * CELLS_OF_ROW;
    private static final int GUARDS_OF_ROW = 3;
    private static final int GUARDS = ROWS * GUARDS_OF_ROW;
    private static final int LEVELS = 3;
    private static final int LAST_WORD = 6560;
    private static final int LAST_VALUE = 999;

    private static final int LOWER = 0;
    private static final int UPPER = 1;
    private static final int FIXED_LOWER = 300;
    private static final int FIXED_UPPER = 700;

    private static final int BY_OWN = 0;
    private static final int BY_ROWS_BESIDE = 1;
    private static final int BY_FIXED = 2;

    private static final int MIDDLE = 0;
    private static final int APART = 1;
    private static final int AGE_OF_ANEW = 2;
    private static final int SETTINGS = 3;

    private static final int FIRST_RATE = 20;
    private static final int MOST_RATE = 200;
    private static final int MOST_DAYS = 99;
    private static final int LAST_DAY = 9999;
    private static final int NO_LAST_DAY = 1000000;
    private static final int DAYS_LOOKED_AHEAD = 300;
    private static final int MOST_SAFE_AGE = 60;
    private static final int DAYS_OF_SAFETY = 60;

    private static final int STATES_KEPT = 4;
    private static final int TEXT_MOST = 60;
    private static final int MOST_NUMBERS = 3;
    private static final int MOST_DIGITS = 3;
    private static final char NO_SIGN = 0;

    private static final int WRONG_FORM = 1;
    private static final int REFUSED = 2;

    private Grid grid;
    private Grid spare;
    private final Grid trial;
    private final Grid[] history;
    private int states;
    private final OrderText text;
    private int orders;
    private int faultPosition;
    private int faultReason;
    private int faultCause;

    public DriftingLevels() {
        grid = new Grid();
        spare = new Grid();
        trial = new Grid();
        history = new Grid[STATES_KEPT];
        for (int i = 0; i < STATES_KEPT; i++) {
            history[i] = new Grid();
        }
        text = new OrderText();
    }

    // ---- writing

    public int write(int row, int cell, int level) {
        spare.copyFrom(grid);
        return recorded(grid.writeLevel(row, cell, level));
    }

    public int fill(int row, int word) {
        spare.copyFrom(grid);
        return recorded(grid.writeWord(row, word));
    }

    public int anew(int row) {
        spare.copyFrom(grid);
        return recorded(grid.writeAnew(row));
    }

    public int ask(int row, int cell) {
        spare.copyFrom(grid);
        return recorded(grid.askCell(row, cell));
    }

    // ---- guards, days

    public int fail(int row, int guard, int value) {
        spare.copyFrom(grid);
        return recorded(grid.failGuard(row, guard, value));
    }

    public int mend(int row, int guard) {
        spare.copyFrom(grid);
        return recorded(grid.mendGuard(row, guard));
    }

    public int rate(int row, int rate) {
        spare.copyFrom(grid);
        return recorded(grid.changeRate(row, rate));
    }

    public int days(int many) {
        spare.copyFrom(grid);
        return recorded(grid.passDays(many, LAST_DAY));
    }

    public int set(int what, int value) {
        spare.copyFrom(grid);
        return recorded(grid.changeSetting(what, value));
    }

    // ---- what there is

    public int cell(int row, int cell, int what) {
        return grid.numberOfCell(row, cell, what);
    }

    public int guard(int row, int guard, int what) {
        return grid.numberOfGuard(row, guard, what);
    }

    public int row(int row, int what) {
        return grid.numberOfRow(row, what);
    }

    public int table(int level, int told) {
        return grid.timesTold(level, told);
    }

    // ---- what would be

    public int wrongIn(int row) {
        if (isOutside(row, 0, ROWS - 1)) {
            return INVALID_ARGUMENT;
        }
        trial.copyFrom(grid);
        for (int day = 0; day <= DAYS_LOOKED_AHEAD; day++) {
            if (trial.wrongCells(row) > 0) {
                return day;
            }
            trial.passDays(1, NO_LAST_DAY);
        }
        return NOT_FOUND;
    }

    public int rightFor(int row) {
        if (isOutside(row, 0, ROWS - 1)) {
            return INVALID_ARGUMENT;
        }
        trial.copyFrom(grid);
        trial.changeSetting(AGE_OF_ANEW, 0);
        for (int day = 0; day <= DAYS_LOOKED_AHEAD; day++) {
            if (!trial.hasRightThresholds(row)) {
                return day;
            }
            trial.passDays(1, NO_LAST_DAY);
        }
        return NOT_FOUND;
    }

    public int safeAge() {
        for (int age = MOST_SAFE_AGE; age >= 1; age--) {
            if (isSafe(age)) {
                return age;
            }
        }
        return NOT_FOUND;
    }

    public int worst(int rank) {
        if (isOutside(rank, 0, ROWS - 1)) {
            return INVALID_ARGUMENT;
        }
        int taken = 0;
        int found = 0;
        for (int i = 0; i <= rank; i++) {
            found = grid.worstBut(taken);
            taken = taken | 1 << found;
        }
        return found;
    }

    public int mean() {
        return bitsOf((float) grid.distanceFromAims() / (float) CELLS);
    }

    public int share() {
        int asked = grid.timesAsked();
        if (asked == 0) {
            return NOT_FOUND;
        }
        return bitsOf((float) grid.timesToldRight() / (float) asked);
    }

    public int count(int what) {
        switch (what) {
            case 15: return states;
            case 16: return text.size();
            default: return grid.tally(what);
        }
    }

    public int undo() {
        if (states <= 0 || states > STATES_KEPT) {
            return NOT_POSSIBLE;
        }
        states--;
        // The grids are exchanged, so that none is ever made after the constructor.
        Grid undone = grid;
        grid = history[states];
        history[states] = undone;
        return states;
    }

    // ---- texts

    public int type(int character) {
        return text.append(character);
    }

    public int clearText() {
        return text.empty();
    }

    public int fault(int what) {
        if (isOutside(what, 0, 2)) {
            return INVALID_ARGUMENT;
        }
        if (!findFault()) {
            return NOT_FOUND;
        }
        switch (what) {
            case 0: return faultPosition;
            case 1: return faultReason;
            default: return faultCause;
        }
    }

    public int play() {
        if (findFault()) {
            return NOT_POSSIBLE;
        }
        spare.copyFrom(grid);
        grid.copyFrom(trial);
        return recorded(orders);
    }

    /** Keeps the state that stands in spare as the latest of the history, unless the answer is an error. */
    private int recorded(int answer) {
        if (answer < 0) {
            return answer;
        }
        if (states >= STATES_KEPT) {
            dropOldest();
        }
        // The state that stood at this place is free, and takes the next copy.
        Grid free = history[states];
        history[states] = spare;
        spare = free;
        states++;
        return answer;
    }

    private void dropOldest() {
        Grid oldest = history[0];
        for (int i = 1; i < STATES_KEPT; i++) {
            history[i - 1] = history[i];
        }
        history[STATES_KEPT - 1] = oldest;
        states = STATES_KEPT - 1;
    }

    /** Tells whether no level is lost in the days to come, if this was the age at which rows are written anew. */
    private boolean isSafe(int age) {
        trial.copyFrom(grid);
        trial.changeSetting(AGE_OF_ANEW, age);
        for (int day = 0; day < DAYS_OF_SAFETY; day++) {
            if (trial.passDays(1, NO_LAST_DAY) > 0) {
                return false;
            }
        }
        return true;
    }

    /** Does the orders of the text in the trial grid, up to the first that is not possible. */
    private boolean findFault() {
        trial.copyFrom(grid);
        orders = 0;
        int start = 0;
        while (orders < TEXT_MOST && start < text.size()) {
            if (!text.readOrder(start)) {
                return noteFault(start, WRONG_FORM, text.placeReached() - start);
            }
            int answer = text.doOrder(trial);
            if (answer < 0) {
                return noteFault(start, REFUSED, answer);
            }
            orders++;
            start = text.placeReached();
        }
        return false;
    }

    private boolean noteFault(int position, int reason, int cause) {
        faultPosition = position;
        faultReason = reason;
        faultCause = cause;
        return true;
    }

    private static boolean isOutside(int number, int least, int most) {
        return number < least || number > most;
    }

    /** The bits of a float that is 0 or above, built by hand, as LANGUAGE.md lists no function for it. */
    private static int bitsOf(float number) {
        if (number <= 0f) {
            return 0;
        }
        float rest = number;
        int exponent = 127;
        while (rest >= 2f && exponent < 254) {
            rest = rest / 2f;
            exponent++;
        }
        while (rest < 1f && exponent > 1) {
            rest = rest * 2f;
            exponent--;
        }
        int fraction = (int) ((rest - 1f) * 8388608f);
        return exponent << 23 | fraction;
    }

    /** All that a state of the history holds: cells, guards, rows, settings, the table and the day. */
    private static final class Grid {
        private final int[] level = new int[CELLS];
        private final int[] value = new int[CELLS];
        private final int[] timesWritten = new int[CELLS];
        private final int[] dayWritten = new int[CELLS];
        private final int[] guardValue = new int[GUARDS];
        private final int[] guardFailed = new int[GUARDS];
        private final int[] rateOfRow = new int[ROWS];
        private final int[] dayOfGuards = new int[ROWS];
        private final int[] levelsLost = new int[ROWS];
        private final int[] timesAnew = new int[ROWS];
        private final int[] toldAs = new int[LEVELS * LEVELS];
        private final int[] setting = new int[SETTINGS];
        private int today;

        Grid() {
            for (int place = 0; place < CELLS; place++) {
                put(place, 0);
            }
            for (int row = 0; row < ROWS; row++) {
                writeGuards(row);
                rateOfRow[row] = FIRST_RATE;
            }
            setting[MIDDLE] = 500;
            setting[APART] = 40;
        }

        void copyFrom(Grid other) {
            System.arraycopy(other.level, 0, level, 0, CELLS);
            System.arraycopy(other.value, 0, value, 0, CELLS);
            System.arraycopy(other.timesWritten, 0, timesWritten, 0, CELLS);
            System.arraycopy(other.dayWritten, 0, dayWritten, 0, CELLS);
            System.arraycopy(other.guardValue, 0, guardValue, 0, GUARDS);
            System.arraycopy(other.guardFailed, 0, guardFailed, 0, GUARDS);
            System.arraycopy(other.rateOfRow, 0, rateOfRow, 0, ROWS);
            System.arraycopy(other.dayOfGuards, 0, dayOfGuards, 0, ROWS);
            System.arraycopy(other.levelsLost, 0, levelsLost, 0, ROWS);
            System.arraycopy(other.timesAnew, 0, timesAnew, 0, ROWS);
            System.arraycopy(other.toldAs, 0, toldAs, 0, LEVELS * LEVELS);
            System.arraycopy(other.setting, 0, setting, 0, SETTINGS);
            today = other.today;
        }

        // ---- changes: each answers an error and changes nothing, or does its work

        int writeLevel(int row, int cell, int newLevel) {
            if (isOutsideCell(row, cell) || isOutside(newLevel, 0, LEVELS - 1)) {
                return INVALID_ARGUMENT;
            }
            int place = CELLS_OF_ROW * row + cell;
            put(place, newLevel);
            return value[place];
        }

        int writeWord(int row, int word) {
            if (isOutside(row, 0, ROWS - 1) || isOutside(word, 0, LAST_WORD)) {
                return INVALID_ARGUMENT;
            }
            int before = toldWord(row);
            int rest = word;
            for (int cell = 0; cell < CELLS_OF_ROW; cell++) {
                put(CELLS_OF_ROW * row + cell, rest % LEVELS);
                rest = rest / LEVELS;
            }
            return before;
        }

        int writeAnew(int row) {
            if (isOutside(row, 0, ROWS - 1)) {
                return INVALID_ARGUMENT;
            }
            int lower = threshold(row, LOWER);
            int upper = threshold(row, UPPER);
            int lost = 0;
            // Writing a cell moves no threshold, so each one may be told just ahead of its writing.
            for (int cell = 0; cell < CELLS_OF_ROW; cell++) {
                int place = CELLS_OF_ROW * row + cell;
                int told = tell(value[place], lower, upper);
                if (told != level[place]) {
                    lost++;
                }
                put(place, told);
            }
            writeGuards(row);
            levelsLost[row] += lost;
            timesAnew[row]++;
            return lost;
        }

        int askCell(int row, int cell) {
            if (isOutsideCell(row, cell)) {
                return INVALID_ARGUMENT;
            }
            int place = CELLS_OF_ROW * row + cell;
            int told = tell(value[place], threshold(row, LOWER), threshold(row, UPPER));
            toldAs[LEVELS * level[place] + told]++;
            return told;
        }

        int failGuard(int row, int guard, int newValue) {
            if (isOutsideGuard(row, guard) || isOutside(newValue, 0, LAST_VALUE)) {
                return INVALID_ARGUMENT;
            }
            int place = GUARDS_OF_ROW * row + guard;
            if (guardFailed[place] == 1) {
                return NOT_POSSIBLE;
            }
            int before = guardValue[place];
            guardFailed[place] = 1;
            guardValue[place] = newValue;
            return before;
        }

        int mendGuard(int row, int guard) {
            if (isOutsideGuard(row, guard)) {
                return INVALID_ARGUMENT;
            }
            int place = GUARDS_OF_ROW * row + guard;
            if (guardFailed[place] == 0) {
                return NOT_POSSIBLE;
            }
            guardFailed[place] = 0;
            return guardValue[place];
        }

        int changeRate(int row, int newRate) {
            if (isOutside(row, 0, ROWS - 1) || isOutside(newRate, 1, MOST_RATE)) {
                return INVALID_ARGUMENT;
            }
            int before = rateOfRow[row];
            rateOfRow[row] = newRate;
            return before;
        }

        /** Lets days end, none after lastDay; answers how many levels are lost in them. */
        int passDays(int many, int lastDay) {
            if (isOutside(many, 1, MOST_DAYS)) {
                return INVALID_ARGUMENT;
            }
            if (today > lastDay - many) {
                return LIMIT_REACHED;
            }
            int lost = 0;
            for (int day = 0; day < many; day++) {
                drift();
                today++;
                for (int row = 0; row < ROWS; row++) {
                    if (setting[AGE_OF_ANEW] > 0 && age(row) >= setting[AGE_OF_ANEW]) {
                        lost += writeAnew(row);
                    }
                }
            }
            return lost;
        }

        int changeSetting(int what, int newValue) {
            if (isOutside(what, 0, SETTINGS - 1) || isOutsideSetting(what, newValue)) {
                return INVALID_ARGUMENT;
            }
            int before = setting[what];
            setting[what] = newValue;
            return before;
        }

        // ---- what there is

        int numberOfCell(int row, int cell, int what) {
            if (isOutsideCell(row, cell)) {
                return INVALID_ARGUMENT;
            }
            int place = CELLS_OF_ROW * row + cell;
            int lower = threshold(row, LOWER);
            int upper = threshold(row, UPPER);
            switch (what) {
                case 0: return level[place];
                case 1: return value[place];
                case 2: return tell(value[place], lower, upper);
                case 3: return tell(value[place], ownThreshold(row, LOWER), ownThreshold(row, UPPER));
                case 4: return tell(value[place], FIXED_LOWER, FIXED_UPPER);
                case 5: return timesWritten[place];
                case 6: return Math.min(Math.abs(value[place] - lower), Math.abs(value[place] - upper));
                case 7: return today - dayWritten[place];
                default: return INVALID_ARGUMENT;
            }
        }

        int numberOfGuard(int row, int guard, int what) {
            if (isOutsideGuard(row, guard)) {
                return INVALID_ARGUMENT;
            }
            int place = GUARDS_OF_ROW * row + guard;
            switch (what) {
                case 0: return guardValue[place];
                case 1: return guardFailed[place];
                default: return INVALID_ARGUMENT;
            }
        }

        int numberOfRow(int row, int what) {
            if (isOutside(row, 0, ROWS - 1)) {
                return INVALID_ARGUMENT;
            }
            switch (what) {
                case 0: return ownThreshold(row, LOWER);
                case 1: return ownThreshold(row, UPPER);
                case 2: return hasRightThresholds(row) ? 1 : 0;
                case 3: return source(row);
                case 4: return threshold(row, LOWER);
                case 5: return threshold(row, UPPER);
                case 6: return wrongCells(row);
                case 7: return wrongBy(row, FIXED_LOWER, FIXED_UPPER);
                case 8: return rateOfRow[row];
                case 9: return age(row);
                case 10: return toldWord(row);
                case 11: return levelWord(row);
                case 12: return levelsLost[row];
                case 13: return timesAnew[row];
                default: return INVALID_ARGUMENT;
            }
        }

        int timesTold(int ofLevel, int told) {
            if (isOutside(ofLevel, 0, LEVELS - 1) || isOutside(told, 0, LEVELS - 1)) {
                return INVALID_ARGUMENT;
            }
            return toldAs[LEVELS * ofLevel + told];
        }

        int tally(int what) {
            switch (what) {
                case 0: return today;
                case 1: return allWrongCells();
                case 2: return rowsWithWrongCells();
                case 3: return rowsToldBy(BY_OWN);
                case 4: return rowsToldBy(BY_ROWS_BESIDE);
                case 5: return rowsToldBy(BY_FIXED);
                case 6: return sum(guardFailed);
                case 7: return sum(levelsLost);
                // Each cell was written once at first, which does not count here.
                case 8: return sum(timesWritten) - CELLS;
                case 9: return sum(timesAnew);
                case 10: return timesAsked();
                case 11: return pairsTold();
                case 12: return cellsOfLevel(0);
                case 13: return cellsOfLevel(1);
                case 14: return cellsOfLevel(2);
                case 20: return setting[MIDDLE];
                case 21: return setting[APART];
                case 22: return setting[AGE_OF_ANEW];
                default: return INVALID_ARGUMENT;
            }
        }

        int timesAsked() {
            return sum(toldAs);
        }

        int timesToldRight() {
            int right = 0;
            for (int i = 0; i < LEVELS; i++) {
                right += toldAs[LEVELS * i + i];
            }
            return right;
        }

        int distanceFromAims() {
            int distance = 0;
            for (int place = 0; place < CELLS; place++) {
                distance += Math.abs(value[place] - aim(level[place]));
            }
            return distance;
        }

        /** The row with the most cells told wrong, of several the lowest, but for the set of rows that are taken. */
        int worstBut(int taken) {
            int found = 0;
            int most = -1;
            for (int row = 0; row < ROWS; row++) {
                boolean isTaken = (taken >> row & 1) != 0;
                if (!isTaken && wrongCells(row) > most) {
                    found = row;
                    most = wrongCells(row);
                }
            }
            return found;
        }

        int wrongCells(int row) {
            return wrongBy(row, threshold(row, LOWER), threshold(row, UPPER));
        }

        /** Also for the rows above the first and below the last, which are none, and so not right. */
        boolean hasRightThresholds(int row) {
            if (row < 0 || row >= ROWS) {
                return false;
            }
            int first = GUARDS_OF_ROW * row;
            return guardValue[first + 1] - guardValue[first] >= setting[APART]
                && guardValue[first + 2] - guardValue[first + 1] >= setting[APART];
        }

        // ---- thresholds and telling

        private int ownThreshold(int row, int which) {
            int first = GUARDS_OF_ROW * row + which;
            return (guardValue[first] + guardValue[first + 1]) / 2;
        }

        private int source(int row) {
            if (hasRightThresholds(row)) {
                return BY_OWN;
            }
            return hasRightThresholds(row - 1) || hasRightThresholds(row + 1) ? BY_ROWS_BESIDE : BY_FIXED;
        }

        private int threshold(int row, int which) {
            if (hasRightThresholds(row)) {
                return ownThreshold(row, which);
            }
            boolean above = hasRightThresholds(row - 1);
            boolean below = hasRightThresholds(row + 1);
            if (above && below) {
                return (ownThreshold(row - 1, which) + ownThreshold(row + 1, which)) / 2;
            }
            if (above) {
                return ownThreshold(row - 1, which);
            }
            if (below) {
                return ownThreshold(row + 1, which);
            }
            return which == LOWER ? FIXED_LOWER : FIXED_UPPER;
        }

        private static int tell(int value, int lower, int upper) {
            if (value < lower) {
                return 0;
            }
            return value >= upper ? 2 : 1;
        }

        private int wrongBy(int row, int lower, int upper) {
            int wrong = 0;
            for (int cell = 0; cell < CELLS_OF_ROW; cell++) {
                int place = CELLS_OF_ROW * row + cell;
                if (tell(value[place], lower, upper) != level[place]) {
                    wrong++;
                }
            }
            return wrong;
        }

        private int toldWord(int row) {
            int lower = threshold(row, LOWER);
            int upper = threshold(row, UPPER);
            int word = 0;
            for (int cell = CELLS_OF_ROW - 1; cell >= 0; cell--) {
                word = LEVELS * word + tell(value[CELLS_OF_ROW * row + cell], lower, upper);
            }
            return word;
        }

        private int levelWord(int row) {
            int word = 0;
            for (int cell = CELLS_OF_ROW - 1; cell >= 0; cell--) {
                word = LEVELS * word + level[CELLS_OF_ROW * row + cell];
            }
            return word;
        }

        // ---- writing and drift

        private static int aim(int ofLevel) {
            return 100 + 400 * ofLevel;
        }

        private void put(int place, int newLevel) {
            int error = (37 * place + 11 * timesWritten[place]) % 21 - 10;
            level[place] = newLevel;
            value[place] = aim(newLevel) + error;
            timesWritten[place]++;
            dayWritten[place] = today;
        }

        private void writeGuards(int row) {
            for (int guard = 0; guard < GUARDS_OF_ROW; guard++) {
                int place = GUARDS_OF_ROW * row + guard;
                if (guardFailed[place] == 0) {
                    guardValue[place] = aim(guard);
                }
            }
            dayOfGuards[row] = today;
        }

        private void drift() {
            for (int place = 0; place < CELLS; place++) {
                value[place] = nearer(value[place], rateOfRow[place / CELLS_OF_ROW]);
            }
            for (int place = 0; place < GUARDS; place++) {
                if (guardFailed[place] == 0) {
                    guardValue[place] = nearer(guardValue[place], rateOfRow[place / GUARDS_OF_ROW]);
                }
            }
        }

        private int nearer(int from, int byRate) {
            int middle = setting[MIDDLE];
            if (from < middle) {
                return from + Math.max(1, (middle - from) * byRate / 1000);
            }
            if (from > middle) {
                return from - Math.max(1, (from - middle) * byRate / 1000);
            }
            return from;
        }

        private int age(int row) {
            return today - dayOfGuards[row];
        }

        // ---- sets and sums

        private int allWrongCells() {
            int wrong = 0;
            for (int row = 0; row < ROWS; row++) {
                wrong += wrongCells(row);
            }
            return wrong;
        }

        private int rowsWithWrongCells() {
            int rows = 0;
            for (int row = 0; row < ROWS; row++) {
                if (wrongCells(row) > 0) {
                    rows = rows | 1 << row;
                }
            }
            return rows;
        }

        private int rowsToldBy(int whose) {
            int rows = 0;
            for (int row = 0; row < ROWS; row++) {
                if (source(row) == whose) {
                    rows = rows | 1 << row;
                }
            }
            return rows;
        }

        private int pairsTold() {
            int pairs = 0;
            for (int i = 0; i < LEVELS * LEVELS; i++) {
                if (toldAs[i] > 0) {
                    pairs++;
                }
            }
            return pairs;
        }

        private int cellsOfLevel(int wanted) {
            int cells = 0;
            for (int place = 0; place < CELLS; place++) {
                if (level[place] == wanted) {
                    cells++;
                }
            }
            return cells;
        }

        private static int sum(int[] numbers) {
            int sum = 0;
            for (int i = 0; i < numbers.length; i++) {
                sum += numbers[i];
            }
            return sum;
        }

        // ---- ranges

        private static boolean isOutsideCell(int row, int cell) {
            return isOutside(row, 0, ROWS - 1) || isOutside(cell, 0, CELLS_OF_ROW - 1);
        }

        private static boolean isOutsideGuard(int row, int guard) {
            return isOutside(row, 0, ROWS - 1) || isOutside(guard, 0, GUARDS_OF_ROW - 1);
        }

        private static boolean isOutsideSetting(int what, int newValue) {
            switch (what) {
                case MIDDLE: return isOutside(newValue, 300, 700);
                case APART: return isOutside(newValue, 1, 300);
                default: return isOutside(newValue, 0, 99);
            }
        }
    }

    /** The text of orders, and the order of it that was read last. */
    private static final class OrderText {
        private final char[] signs = new char[TEXT_MOST];
        private int length;
        private char kind;
        private final int[] numbers = new int[MOST_NUMBERS];
        private int reached;

        int size() {
            return length;
        }

        int append(int character) {
            if (isOutside(character, 32, 126)) {
                return INVALID_ARGUMENT;
            }
            if (length >= TEXT_MOST) {
                return LIMIT_REACHED;
            }
            signs[length] = (char) character;
            length++;
            return length;
        }

        int empty() {
            int before = length;
            length = 0;
            return before;
        }

        /** The place behind the order that was read last, or that at which it breaks off. */
        int placeReached() {
            return reached;
        }

        /** Reads the order that starts at a place; answers false if it is not of the form. */
        boolean readOrder(int start) {
            reached = start;
            kind = signAt(start);
            int many = numbersOf(kind);
            if (many == 0) {
                return false;
            }
            reached++;
            for (int i = 0; i < many; i++) {
                if (!readNumber(i)) {
                    return false;
                }
                char after = i < many - 1 ? ',' : ';';
                if (signAt(reached) != after) {
                    return false;
                }
                reached++;
            }
            return true;
        }

        /** Does the order that was read last; answers what its call does. */
        int doOrder(Grid in) {
            switch (kind) {
                case 'w': return in.writeLevel(numbers[0], numbers[1], numbers[2]);
                case 'a': return in.writeAnew(numbers[0]);
                case 'f': return in.failGuard(numbers[0], numbers[1], numbers[2]);
                case 'm': return in.mendGuard(numbers[0], numbers[1]);
                case 'r': return in.changeRate(numbers[0], numbers[1]);
                case 'd': return in.passDays(numbers[0], LAST_DAY);
                default: return INVALID_ARGUMENT;
            }
        }

        private static int numbersOf(char ofKind) {
            switch (ofKind) {
                case 'w':
                case 'f': return 3;
                case 'm':
                case 'r': return 2;
                case 'a':
                case 'd': return 1;
                default: return 0;
            }
        }

        private boolean readNumber(int which) {
            int number = 0;
            int digits = 0;
            while (digits < MOST_DIGITS && isDigit(signAt(reached))) {
                number = 10 * number + (signAt(reached) - '0');
                reached++;
                digits++;
            }
            if (digits == 0 || isOutside(which, 0, MOST_NUMBERS - 1)) {
                return false;
            }
            numbers[which] = number;
            return true;
        }

        private char signAt(int place) {
            return isOutside(place, 0, length - 1) ? NO_SIGN : signs[place];
        }

        private static boolean isDigit(char sign) {
            return sign >= '0' && sign <= '9';
        }
    }
}
