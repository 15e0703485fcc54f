import java.io.IOException;
import java.nio.file.Files;
import java.nio.file.Path;
import java.util.HashMap;
import java.util.HashSet;
import java.util.Map;
import java.util.Set;
import java.util.regex.Matcher;
import java.util.regex.Pattern;

/** What of LANGUAGE.md can be seen in the source's text: words, library calls, sizes and depths. */
public final class LanguageTest {
    private static final String[] NEVER = {"->", "::", "\\bimport\\b", "\\bpackage\\b", "\\btry\\b", "\\bcatch\\b",
        "\\bfinally\\b", "\\bthrow\\b", "\\bsynchronized\\b", "\\bassert\\b", "\\bdouble\\b", "\\bprotected\\b",
        "\\bequals\\b", "\\bhashCode\\b", "\\btoString\\b", "\\bclone\\b", "\\w+Exact\\b", "\\b[A-Z]\\w*\\.MAX_VALUE\\b",
        "\"", "\\bFloat\\b", "\\bRandom\\b", "[^\\x00-\\x7e]"};
    private static final Set<String> LIBRARY = Set.of("Math.min", "Math.max", "Math.abs", "System.arraycopy");
    private static final Pattern METHOD = Pattern.compile(
        "^ +(?:public |private |static |final )*(?:int|boolean|char|void|float) (\\w+)\\(([^)]*)\\) \\{$");
    private static final Pattern CALL = Pattern.compile("\\b(\\w+)\\(");

    private static final Map<String, Set<String>> calls = new HashMap<>();

    public static void main(String[] args) throws IOException {
        String source = Files.readString(Path.of(System.getProperty("source")));
        String code = source.replaceAll("(?s)/\\*.*?\\*/", "").replaceAll("//[^\n]*", "");
        for (String word : NEVER) {
            Due.is("times that " + word + " stands in the source", times(word, code), 0);
        }
        Matcher library = Pattern.compile("\\b[A-Z][a-z]\\w*\\.\\w+").matcher(code);
        while (library.find()) {
            Due.is(library.group() + " is allowed", LIBRARY.contains(library.group()) ? 1 : 0, 1);
        }
        methods(code.split("\n"));
        for (String name : calls.keySet()) {
            int depth = depth(name, new HashSet<>());
            Due.is(name + " goes deeper than eight (" + depth + ")", depth > 8 ? 1 : 0, 0);
        }
        System.out.println("deepest is play with " + depth("play", new HashSet<>()));
        Due.is("classes", times("\\bclass\\b", code) <= 12 ? 1 : 0, 1);
        Due.end();
    }

    private static int times(String word, String code) {
        int times = 0;
        Matcher matcher = Pattern.compile(word).matcher(code);
        while (matcher.find()) {
            times++;
        }
        return times;
    }

    private static void methods(String[] lines) {
        for (int i = 0; i < lines.length; i++) {
            Matcher matcher = METHOD.matcher(lines[i]);
            if (matcher.matches()) {
                String name = matcher.group(1);
                String end = lines[i].replaceAll("\\S.*", "") + "}";
                int last = i;
                while (!lines[last].equals(end)) {
                    last++;
                }
                Due.is(name + " is longer than 60 lines", last - i > 60 ? 1 : 0, 0);
                Due.is(name + " has more than seven parameters", matcher.group(2).split(",").length > 7 ? 1 : 0, 0);
                Due.is(name + " is a name of two methods", calls.containsKey(name) ? 1 : 0, 0);
                calls.put(name, called(lines, i + 1, last));
            }
        }
        Due.is("methods were found", calls.size() > 25 ? 1 : 0, 1);
    }

    private static Set<String> called(String[] lines, int from, int to) {
        Set<String> names = new HashSet<>();
        for (int i = from; i < to; i++) {
            Matcher matcher = CALL.matcher(lines[i]);
            while (matcher.find()) {
                names.add(matcher.group(1));
            }
        }
        return names;
    }

    /** Methods that stand open at once, the library's among them; a recursion counts as too deep. */
    private static int depth(String name, Set<String> open) {
        if (open.contains(name)) {
            return 100;
        }
        int deepest = 0;
        open.add(name);
        for (String next : calls.getOrDefault(name, Set.of())) {
            boolean isMethod = calls.containsKey(next) || next.equals("max") || next.equals("arraycopy");
            deepest = isMethod ? Math.max(deepest, depth(next, open)) : deepest;
        }
        open.remove(name);
        return deepest + 1;
    }
}
