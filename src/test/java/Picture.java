/** What an object shows of its state. */
final class Picture {
    private Picture() {
    }

    /** All that is in a state of the history, in some 290 calls. */
    static String of(DriftingLevels x) {
        StringBuilder picture = new StringBuilder();
        for (int row = 0; row < 6; row++) {
            for (int what = 0; what < 14; what++) {
                picture.append(x.row(row, what)).append(' ');
            }
            for (int cell = 0; cell < 8; cell++) {
                picture.append(x.cell(row, cell, 1)).append(' ');
                picture.append(x.cell(row, cell, 5)).append(' ');
                picture.append(x.cell(row, cell, 7)).append(' ');
            }
            for (int guard = 0; guard < 3; guard++) {
                picture.append(x.guard(row, guard, 0)).append(' ');
                picture.append(x.guard(row, guard, 1)).append(' ');
            }
        }
        for (int pair = 0; pair < 9; pair++) {
            picture.append(x.table(pair / 3, pair % 3)).append(' ');
        }
        return picture.append(numbers(x)).toString();
    }

    /** The numbers of count(), but for those of the history and the text, and two floats, in 20 calls. */
    static String numbers(DriftingLevels x) {
        StringBuilder picture = new StringBuilder();
        for (int what = 0; what < 23; what++) {
            if (what < 15 || what > 19) {
                picture.append(x.count(what)).append(' ');
            }
        }
        return picture.append(x.mean()).append(' ').append(x.share()).toString();
    }

    /** The history, by undoing all of it, and the text, by its length and its fault. */
    static String ofThePast(DriftingLevels x) {
        StringBuilder picture = new StringBuilder();
        picture.append(x.count(15)).append(' ').append(x.count(16)).append(' ');
        for (int what = 0; what < 3; what++) {
            picture.append(x.fault(what)).append(' ');
        }
        for (int i = 0; i < 5; i++) {
            picture.append(x.undo()).append(": ").append(numbers(x)).append('\n');
        }
        return picture.toString();
    }
}
