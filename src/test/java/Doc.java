import java.io.IOException;
import java.nio.file.Files;
import java.nio.file.Path;
import java.util.ArrayList;
import java.util.BitSet;
import java.util.List;
import java.util.regex.Matcher;
import java.util.regex.Pattern;

/** The document, by its sections: what of it the tests quote, and which words that name a boundary they do not. */
final class Doc {
    private static final Path FILE = Path.of("../shared/DOC.md");
    private static final int PROMISES = 31;
    private static final String WORDS = "UNKNOWN OUTSIDE STATE FULL NONE none None nothing Nothing nobody never no not "
        + "nowhere empty gone least most more less fewer fewest first forgotten anew wrapping down if beside both alone stay";
    private static final Pattern BOUNDARY = Pattern.compile("\\b(\\d+ to \\d+|" + WORDS.replace(' ', '|') + ")\\b");

    /** The Terms are section 0, a promise is its number, what stands ahead of the Terms is the last one. */
    private final String[] sections = new String[PROMISES + 2];
    private final BitSet[] quoted = new BitSet[PROMISES + 2];
    private final boolean there;

    Doc() throws IOException {
        there = Files.exists(FILE);
        String text = there ? Files.readString(FILE).replaceAll("\\s+", " ") : "";
        int terms = Math.max(0, text.indexOf("## Terms"));
        sections[PROMISES + 1] = text.substring(0, terms);
        for (int i = 0; i <= PROMISES; i++) {
            int start = i == 0 ? terms : Math.max(0, text.indexOf("## Promise " + i + ":"));
            int end = text.indexOf("## ", start + 3);
            sections[i] = there ? text.substring(start, end < 0 ? text.length() : end) : "";
        }
        for (int i = 0; i < quoted.length; i++) {
            quoted[i] = new BitSet();
        }
    }

    boolean isThere() {
        return there;
    }

    /** Marks these words as quoted, in the promise if they stand there, else in the Terms, else ahead of them. */
    boolean quote(int promise, String words) {
        return mark(promise, words) || mark(0, words) || mark(PROMISES + 1, words);
    }

    private boolean mark(int section, String words) {
        int at = sections[section].indexOf(words);
        if (at < 0) {
            return false;
        }
        quoted[section].set(at, at + words.length());
        return true;
    }

    /** What names a boundary in the Terms and the promises and stands in no quotation. */
    List<String> leftOut() {
        List<String> found = new ArrayList<>();
        for (int i = 0; i <= PROMISES; i++) {
            Matcher m = BOUNDARY.matcher(sections[i]);
            while (m.find()) {
                if (quoted[i].nextClearBit(m.start()) < m.end()) {
                    int start = Math.max(0, m.start() - 30);
                    int end = Math.min(sections[i].length(), m.end() + 30);
                    String where = i == 0 ? "Terms" : "promise " + i;
                    found.add(where + ": .. " + sections[i].substring(start, end) + " ..");
                }
            }
        }
        return found;
    }
}
