import java.util.Arrays;

/** Calls of the face by their names, so that tests can hold them in tables. */
final class Calls {
    static final int INVALID = DriftingLevels.INVALID_ARGUMENT;
    static final int NOT_POSSIBLE = DriftingLevels.NOT_POSSIBLE;
    static final int LIMIT = DriftingLevels.LIMIT_REACHED;
    static final int NOT_FOUND = DriftingLevels.NOT_FOUND;

    private Calls() {
    }

    static int answer(DriftingLevels x, String name, int... a) {
        switch (name) {
            case "write": return x.write(a[0], a[1], a[2]);
            case "fill": return x.fill(a[0], a[1]);
            case "anew": return x.anew(a[0]);
            case "ask": return x.ask(a[0], a[1]);
            case "fail": return x.fail(a[0], a[1], a[2]);
            case "mend": return x.mend(a[0], a[1]);
            case "rate": return x.rate(a[0], a[1]);
            case "days": return x.days(a[0]);
            case "set": return x.set(a[0], a[1]);
            case "cell": return x.cell(a[0], a[1], a[2]);
            case "guard": return x.guard(a[0], a[1], a[2]);
            case "row": return x.row(a[0], a[1]);
            case "table": return x.table(a[0], a[1]);
            default: return answerOfTheRest(x, name, a);
        }
    }

    private static int answerOfTheRest(DriftingLevels x, String name, int[] a) {
        switch (name) {
            case "wrongIn": return x.wrongIn(a[0]);
            case "rightFor": return x.rightFor(a[0]);
            case "safeAge": return x.safeAge();
            case "worst": return x.worst(a[0]);
            case "mean": return x.mean();
            case "share": return x.share();
            case "count": return x.count(a[0]);
            case "undo": return x.undo();
            case "type": return x.type(a[0]);
            case "clearText": return x.clearText();
            case "fault": return x.fault(a[0]);
            case "play": return x.play();
            default: throw new IllegalStateException(name);
        }
    }

    /** A call as a test names it: write(0, 0, 1). */
    static String told(String name, int... a) {
        return name + Arrays.toString(a).replace('[', '(').replace(']', ')');
    }
}
