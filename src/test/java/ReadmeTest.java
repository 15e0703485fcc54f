import java.io.IOException;
import java.nio.file.Files;
import java.nio.file.Path;
import java.util.regex.Matcher;
import java.util.regex.Pattern;

/** The example of README.md: each call of it answers what stands behind it; and each call of the face is named. */
public final class ReadmeTest {
    private static final Pattern CALL = Pattern.compile("x\\.(\\w+)\\(([0-9, ]*)\\); +// (\\w+): .+");
    private static final Pattern TYPE = Pattern.compile("type\\(x, \"([ -~]*)\"\\);");
    private static final String FIRST = "DriftingLevels x = new DriftingLevels();";

    public static void main(String[] args) throws IOException {
        String readme = Files.readString(Path.of(System.getProperty("readme")));
        int start = readme.indexOf(FIRST);
        Due.is("the example begins", start >= 0 ? 1 : 0, 1);
        String[] lines = readme.substring(start + FIRST.length() + 1).split("\n");
        DriftingLevels x = new DriftingLevels();
        int done = 0;
        while (!lines[done].equals("```")) {
            line(x, lines[done]);
            done++;
        }
        Due.is("lines of the example are above 15", done > 15 ? 1 : 0, 1);
        for (String[] heading : FaceTest.HEADINGS) {
            for (int i = 1; i < heading.length; i++) {
                Due.is(heading[i] + " is named", readme.contains("`" + heading[i] + "`") ? 1 : 0, 1);
            }
        }
        Due.end();
    }

    private static void line(DriftingLevels x, String line) {
        Matcher type = TYPE.matcher(line);
        if (type.matches()) {
            Due.type(x, type.group(1));
            return;
        }
        Matcher call = CALL.matcher(line);
        Due.is("the form of: " + line, call.matches() ? 1 : 0, 1);
        Due.is(line, Calls.answer(x, call.group(1), numbers(call.group(2))), due(call.group(3)));
    }

    private static int[] numbers(String told) {
        String[] parts = told.isEmpty() ? new String[0] : told.split(", ");
        int[] numbers = new int[parts.length];
        for (int i = 0; i < numbers.length; i++) {
            numbers[i] = Integer.parseInt(parts[i]);
        }
        return numbers;
    }

    private static int due(String told) {
        switch (told) {
            case "INVALID_ARGUMENT": return Calls.INVALID;
            case "NOT_POSSIBLE": return Calls.NOT_POSSIBLE;
            case "LIMIT_REACHED": return Calls.LIMIT;
            case "NOT_FOUND": return Calls.NOT_FOUND;
            default: return Integer.parseInt(told);
        }
    }
}
