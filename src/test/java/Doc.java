import java.io.IOException;
import java.nio.file.Files;
import java.nio.file.Path;
import java.util.BitSet;
import java.util.LinkedHashMap;
import java.util.Map;
import java.util.regex.Matcher;
import java.util.regex.Pattern;

/**
 * The document, by its sections. A test quotes the words that it tests: they must stand in their section,
 * and in the end each word from the first section to the last promise must have been quoted.
 */
final class Doc {
    private static final Pattern WORD = Pattern.compile("[A-Za-z0-9_]+");
    private static final Map<String, String> TEXTS = new LinkedHashMap<>();
    private static final Map<String, BitSet> QUOTED = new LinkedHashMap<>();

    private Doc() {
    }

    static void read() throws IOException {
        String section = "";
        for (String line : Files.readAllLines(Path.of(System.getProperty("doc")))) {
            if (line.startsWith("#")) {
                section = line.replaceAll("^#+ ", "").replaceAll(":.*", "");
                TEXTS.put(section, "");
                QUOTED.put(section, new BitSet());
            } else if (!section.isEmpty()) {
                TEXTS.put(section, TEXTS.get(section) + line + "\n");
            }
        }
    }

    static String text(String section) {
        return TEXTS.getOrDefault(section, "");
    }

    /** The answers from here on are about these words of a section. */
    static void quote(String section, String... words) {
        Due.about(section + ", \"" + String.join("\" and \"", words) + "\"");
        for (String one : words) {
            mark(section, one);
        }
    }

    private static void mark(String section, String words) {
        int at = text(section).indexOf(words);
        if (at < 0) {
            Due.is("times that " + section + " says: " + words, 0, 1);
            return;
        }
        while (at >= 0) {
            QUOTED.get(section).set(at, at + words.length());
            at = text(section).indexOf(words, at + 1);
        }
    }

    static void allIsQuoted() {
        boolean isBetween = false;
        int sections = 0;
        for (String section : TEXTS.keySet()) {
            isBetween = section.equals("What it is") || isBetween && !section.equals("Not promised");
            if (isBetween) {
                sections++;
                allIsQuoted(section);
            }
        }
        Due.is("sections that tests quote", sections, 33);
    }

    private static void allIsQuoted(String section) {
        Matcher word = WORD.matcher(text(section));
        while (word.find()) {
            boolean isQuoted = QUOTED.get(section).nextClearBit(word.start()) >= word.end();
            if (!isQuoted) {
                Due.is("tests of " + section + ": \"" + word.group() + "\" at " + word.start(), 0, 1);
            }
        }
    }
}
