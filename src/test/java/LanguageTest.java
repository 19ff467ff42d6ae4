import com.sun.management.ThreadMXBean;
import java.lang.management.ManagementFactory;
import java.nio.file.Files;
import java.nio.file.Path;
import java.util.regex.Matcher;
import java.util.regex.Pattern;

/** Those rules of LANGUAGE.md that a text can show, and that calls keep to the room. */
public final class LanguageTest {
    private static final String[] RULED_OUT = {
        "\\bthrow\\b", "\\btry\\b", "\\bcatch\\b", "\\bsynchronized\\b", "\\bassert\\b", "::",
        "(?m)^(?!\\s*(case|default)\\b).*->", "\\bpackage\\b", "\\bprotected\\b", "Exact\\b", "\\bstatic\\s*\\{",
        "\\bimport (?!java\\.util\\.)", "\\bRandom\\b", "currentTimeMillis", "nanoTime", "hashCode", "\\bThread\\b",
        "(Math|Integer|Long)\\.[A-Z]",
    };
    private static final String LIBRARY = "Math\\.\\w+|Integer\\.\\w+|Long\\.\\w+|System\\.arraycopy"
        + "|Arrays\\.(copyOf|copyOfRange|fill)|List\\.of";
    /** Elements of the room in which all calls of a run live, at four bytes each at least. */
    private static final long ROOM = 4 * 7_300_000L;

    public static void main(String[] args) throws Exception {
        Due due = new Due("LanguageTest");
        String source = Files.readString(Path.of(args.length > 0 ? args[0] : "src/main/java/DawnCoin.java"));
        String code = source.replaceAll("(?s)/\\*.*?\\*/", "").replaceAll("//[^\n]*", "");
        for (String word : RULED_OUT) {
            due.holds("no " + word, !Pattern.compile(word).matcher(code).find());
        }
        library(due, code);
        lengths(due, code);
        room(due);
        due.end();
    }

    private static void library(Due due, String code) {
        Matcher m = Pattern.compile("\\b(Math|Integer|Long|System|Arrays|List)\\.\\w+").matcher(code);
        while (m.find()) {
            due.holds(m.group(), m.group().matches(LIBRARY));
        }
    }

    private static void lengths(Due due, String code) {
        Matcher m = Pattern.compile("(?m)^( {4}| {8})[a-z][\\w \\[\\]]*\\w+\\(([^)]*)\\) \\{\n").matcher(code);
        while (m.find()) {
            int end = Math.max(m.end(), code.indexOf("\n" + m.group(1) + "}\n", m.end()));
            long lines = code.substring(m.end(), end).lines().count();
            due.holds(m.group().trim() + " has " + lines + " lines", lines <= 60);
            due.holds(m.group().trim() + " has 7 parameters at most", m.group(2).split(",").length <= 7);
        }
        long classes = Pattern.compile("\\b(class|enum|record|interface) ").matcher(code).results().count();
        due.is("classes", classes, 1 + DawnCoin.class.getDeclaredClasses().length);
        due.holds("twelve classes at most", DawnCoin.class.getDeclaredClasses().length < 12);
    }

    private static void room(Due due) {
        ThreadMXBean bean = (ThreadMXBean) ManagementFactory.getThreadMXBean();
        everyCall(Due.town("YR413R600R208R900R317X01X12P0P3P5S00S13S25"));
        DawnCoin coin = Due.town("YR413R600R208R900R317X01X12P0P3P5S00S13S25");
        long before = bean.getCurrentThreadAllocatedBytes();
        everyCall(coin);
        long made = bean.getCurrentThreadAllocatedBytes() - before;
        System.out.println("LanguageTest: some 700 calls made " + made + " bytes of objects");
        due.holds(made + " bytes of objects that calls made keep to the room", made <= ROOM);
    }

    private static void everyCall(DawnCoin c) {
        for (int i = 0; i < 9; i++) {
            c.wipe(); c.write('Y'); c.fault(); c.town(); c.rumour(0, 3); c.table(1); c.coins(1, 1);
            for (int j = 0; j < TOWN.length(); j++) {
                c.write(TOWN.charAt(j));
            }
            c.town(); c.dawn(); c.say(3, 1); c.deny(1, 3); c.pay(2, 0, 2); c.undo(); c.dawn();
            c.worth(0, 8); c.purse(0, 8); c.bestDay(0); c.reach(0, 5); c.plan(0, 8, true); c.holds(0, true);
            c.judge(4, 3205200200L); c.hear(0, 3, 2, true); c.where(0, 1); c.unhear(); c.share(0, 0, 3, true);
            c.rests(0, 1, 8, 1); c.chance(0, 5, 3, true); c.seed(3); c.weeks(20); c.keep(0); c.again(0); c.count(5);
        }
    }

    private static final String TOWN = "R413R600R208R900R317X01X12P0P3P5S00S13S25";
}
