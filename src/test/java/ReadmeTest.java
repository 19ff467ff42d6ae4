import java.io.IOException;
import java.lang.reflect.Method;
import java.lang.reflect.Modifier;
import java.nio.file.DirectoryStream;
import java.nio.file.Files;
import java.nio.file.Path;
import java.util.ArrayList;
import java.util.List;
import java.util.Set;
import java.util.TreeSet;
import java.util.regex.Matcher;
import java.util.regex.Pattern;

/** README.md tells the truth: its example answers as it says, its tables name every call, refusal and test. */
public final class ReadmeTest {
    private static final Path DOCUMENT = Path.of("../shared/DOC.md");
    private static final Path TESTS = Path.of("src/test/java");
    private static final Pattern TEXT = Pattern.compile("String text = \"([^\"]*)\";");
    private static final Pattern CALL = Pattern.compile("(?m)^coin\\.(\\w+\\([^)]*\\)); +// (?:DawnCoin\\.)?(-?\\w+):");
    private static final Pattern ROW = Pattern.compile("(?m)^\\| `((\\w+)\\([^)]*\\))` \\| [^|]+ \\|([^|]*)\\|$");
    private static final Pattern FACE = Pattern.compile("public (?:int|long) (\\w+)\\(([^)]*)\\);");
    private static final Pattern REFUSAL = Pattern.compile("\\b(UNKNOWN|OUTSIDE|STATE|FULL)\\b");

    private static final Due DUE = new Due("ReadmeTest");

    public static void main(String[] args) throws IOException {
        String readme = Files.readString(Path.of("README.md"));
        example(readme);
        everyCall(readme);
        everyTest(readme);
        if (Files.exists(DOCUMENT)) {
            asTheDocument(readme, Files.readString(DOCUMENT));
        }
        DUE.end();
    }

    private static void example(String readme) {
        Matcher text = TEXT.matcher(readme);
        DUE.holds("the example has a text", text.find());
        List<String> told = new ArrayList<>(List.of("text " + text.group(1)));
        Matcher call = CALL.matcher(readme);
        while (call.find()) {
            told.add(call.group(1) + " " + call.group(2));
        }
        long lines = readme.lines().filter(line -> line.startsWith("coin.")).count();
        DUE.is("lines of the example that tell an answer", told.size() - 1, lines);
        List<Script.Step> steps = Script.steps(told.toArray(new String[0]));
        new Script(new DawnCoin()).run(steps, DUE, "example");
        new Script(new Model()).run(steps, DUE, "example, the model");
    }

    private static void everyCall(String readme) {
        Set<String> rows = new TreeSet<>();
        Matcher row = ROW.matcher(readme);
        while (row.find()) {
            DUE.holds(row.group(2) + " has one row", rows.add(row.group(2)));
        }
        Set<String> calls = new TreeSet<>();
        for (Method m : DawnCoin.class.getDeclaredMethods()) {
            if (Modifier.isPublic(m.getModifiers())) {
                calls.add(m.getName());
            }
        }
        DUE.holds("rows " + rows + ", calls " + calls, rows.equals(calls));
        String[] told = {"`UNKNOWN` (-1,", "`OUTSIDE` (-2,", "`STATE` (-3,", "`FULL`\n(-4)", "`NONE` (-9)"};
        for (String constant : told) {
            DUE.holds("the page tells " + constant, readme.contains(constant));
        }
    }

    private static void everyTest(String readme) throws IOException {
        try (DirectoryStream<Path> files = Files.newDirectoryStream(TESTS, "*Test.java")) {
            for (Path file : files) {
                String name = file.getFileName().toString().replace(".java", "");
                DUE.holds("the page tells of " + name, readme.contains("\n| `" + name + "` |"));
            }
        }
    }

    /** The document's names of what a call takes, and the refusals that its promise names, in their order. */
    private static void asTheDocument(String readme, String document) {
        Matcher face = FACE.matcher(document);
        int found = 0;
        while (face.find()) {
            found++;
            String call = face.group(1) + "(" + face.group(2).replaceAll("(int|long|boolean) ", "") + ")";
            String name = face.group(1);
            int start = document.indexOf("## Promise " + (found + 1) + ": " + name + "\n");
            DUE.holds("promise " + (found + 1) + " is that of " + name, start >= 0);
            int end = document.indexOf("\n## ", start + 3);
            String promise = document.substring(Math.max(0, start), end < 0 ? document.length() : end);
            int row = readme.indexOf("\n| `" + call + "` |");
            DUE.holds("the page has a row of " + call, row >= 0);
            if (row < 0) {
                continue;
            }
            String line = readme.substring(row + 1, readme.indexOf('\n', row + 1));
            String refused = line.substring(line.lastIndexOf('|', line.length() - 2));
            DUE.holds(call + " is refused by " + refusals(promise) + ", the page tells " + refusals(refused),
                refusals(promise).equals(refusals(refused)));
            DUE.holds(call + " tells NONE as the document does", promise.contains("NONE") == line.contains("NONE"));
        }
        DUE.is("calls of the document's face", found, 30);
    }

    private static List<String> refusals(String text) {
        List<String> found = new ArrayList<>();
        Matcher m = REFUSAL.matcher(text);
        while (m.find()) {
            found.add(m.group());
        }
        return found;
    }
}
