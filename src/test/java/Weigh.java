import java.io.ByteArrayOutputStream;
import java.io.IOException;
import java.io.OutputStream;
import java.io.PrintStream;
import java.io.StringWriter;
import java.lang.reflect.InvocationTargetException;
import java.lang.reflect.Method;
import java.net.URI;
import java.nio.file.Files;
import java.nio.file.Path;
import java.util.ArrayList;
import java.util.List;
import java.util.Map;
import java.util.TreeMap;
import java.util.TreeSet;
import java.util.concurrent.ExecutorService;
import java.util.concurrent.Executors;
import java.util.concurrent.TimeUnit;
import java.util.regex.Matcher;
import java.util.regex.Pattern;
import javax.tools.FileObject;
import javax.tools.ForwardingJavaFileManager;
import javax.tools.JavaCompiler;
import javax.tools.JavaFileManager;
import javax.tools.JavaFileObject;
import javax.tools.SimpleJavaFileObject;
import javax.tools.ToolProvider;

/**
 * Weighs EdgesTest: makes one small change of DawnCoin after another, each by itself, and prints those that it does not
 * see. It is no test and takes some minutes; what it prints is gone through by hand, as there are changes by which no
 * answer changes.
 */
public final class Weigh {
    private static final Path SOURCE = Path.of("src/main/java/DawnCoin.java");
    private static final long PATIENCE = 60_000;
    /** What is looked for in a line of code, and what stands there instead. */
    private static final String[][] CHANGES = {
        {"<=", "<"}, {">=", ">"}, {"(?<![<-])<(?![<=])", "<="}, {"(?<![>-])>(?![>=])", ">="}, {"==", "!="}, {"!=", "=="},
        {"&&", "||"}, {"\\|\\|", "&&"}, {"(?<= )\\+(?= )", "-"}, {"(?<= )-(?= )", "+"}, {"\\+\\+", "--"}, {"--", "++"},
        {"\\+=", "-="}, {"\\|=", "="}, {"&=", "="}, {"(?<= )&(?= )", "|"}, {"(?<= )\\|(?= )", "&"}, {"<<", ">>"},
        {">>>", ">>"}, {"~", ""}, {"!(?!=)", ""}, {"\\btrue\\b", "false"}, {"\\bfalse\\b", "true"}, {"(?<= )\\*(?= )", "+"},
        {"(?<= )/(?= )", "%"}, {"(?<= )%(?= )", "/"}, {"(?<=return )UNKNOWN", "OUTSIDE"}, {"(?<=return )OUTSIDE", "STATE"},
        {"(?<=return )STATE", "FULL"}, {"(?<=return )FULL", "STATE"}, {"(?<=return )NONE", "0"},
        {"^\\s+[a-z][\\w.\\[\\]]*(\\(.*\\)|\\+\\+| [-+|&]?= .*);$", ";"},
    };
    private static final Pattern NUMBER = Pattern.compile("(?<![\\w.])\\d+(?![\\w.])");

    private final List<String> lines;
    private final Map<String, byte[]> tests = new TreeMap<>();
    private final PrintStream out = System.out;
    private int made;
    private int unseen;

    private Weigh() throws Exception {
        lines = Files.readAllLines(SOURCE);
        Path classes = Path.of(Weigh.class.getProtectionDomain().getCodeSource().getLocation().toURI());
        try (var files = Files.list(classes)) {
            for (Path file : files.toList()) {
                tests.put(file.getFileName().toString().replace(".class", ""), Files.readAllBytes(file));
            }
        }
    }

    public static void main(String[] args) throws Exception {
        new Weigh().run();
        System.exit(0);
    }

    private void run() throws InterruptedException {
        System.setOut(new PrintStream(OutputStream.nullOutputStream()));
        ExecutorService workers = Executors.newFixedThreadPool(Runtime.getRuntime().availableProcessors());
        for (int i = 0; i < lines.size(); i++) {
            int place = i;
            for (String line : changesOf(lines.get(i))) {
                workers.execute(() -> weigh(place, line));
            }
        }
        workers.shutdown();
        workers.awaitTermination(1, TimeUnit.DAYS);
        out.println(made + " changes, " + unseen + " of them unseen");
    }

    private static TreeSet<String> changesOf(String line) {
        TreeSet<String> found = new TreeSet<>();
        if (line.isBlank() || line.strip().startsWith("/") || line.strip().startsWith("*")) {
            return found;
        }
        for (String[] change : CHANGES) {
            Matcher m = Pattern.compile(change[0]).matcher(line);
            while (m.find()) {
                found.add(line.substring(0, m.start()) + change[1] + line.substring(m.end()));
            }
        }
        Matcher m = NUMBER.matcher(line);
        while (m.find()) {
            int number = Integer.parseInt(m.group());
            found.add(line.substring(0, m.start()) + (number + 1) + line.substring(m.end()));
            found.add(line.substring(0, m.start()) + Math.max(0, number - 1) + line.substring(m.end()));
        }
        found.remove(line);
        return found;
    }

    private void weigh(int place, String line) {
        List<String> changed = new ArrayList<>(lines);
        changed.set(place, line);
        Map<String, byte[]> classes = compile(String.join("\n", changed));
        if (!classes.isEmpty()) {
            boolean seen = isSeen(classes);
            synchronized (this) {
                made++;
                unseen += seen ? 0 : 1;
                if (!seen) {
                    out.println((place + 1) + ": " + lines.get(place).strip() + "  =>  " + line.strip());
                }
            }
        }
    }

    /** The classes of this source, by name; none, if it is no Java. */
    private static Map<String, byte[]> compile(String source) {
        JavaCompiler compiler = ToolProvider.getSystemJavaCompiler();
        Map<String, Piece> pieces = new TreeMap<>();
        JavaFileManager files = new ForwardingJavaFileManager<>(compiler.getStandardFileManager(d -> { }, null, null)) {
            @Override
            public JavaFileObject getJavaFileForOutput(Location l, String name, JavaFileObject.Kind kind, FileObject f) {
                pieces.put(name, new Piece(name, kind, ""));
                return pieces.get(name);
            }
        };
        List<Piece> sources = List.of(new Piece("DawnCoin", JavaFileObject.Kind.SOURCE, source));
        boolean done = compiler.getTask(new StringWriter(), files, d -> { }, null, null, sources).call();
        Map<String, byte[]> classes = new TreeMap<>();
        pieces.forEach((name, piece) -> classes.put(name, piece.bytes.toByteArray()));
        return done ? classes : Map.of();
    }

    /** It is seen, too, if the test throws, or does not end in time. */
    private boolean isSeen(Map<String, byte[]> classes) {
        boolean[] unseen = new boolean[1];
        Thread thread = new Thread(() -> unseen[0] = wrong(new Loader(classes)) == 0);
        thread.setDaemon(true);
        thread.start();
        try {
            thread.join(PATIENCE);
        } catch (InterruptedException e) {
            return true;
        }
        return !unseen[0];
    }

    private static int wrong(ClassLoader loader) {
        try {
            Method wrong = loader.loadClass("EdgesTest").getDeclaredMethod("wrong");
            wrong.setAccessible(true);
            return (Integer) wrong.invoke(null);
        } catch (InvocationTargetException e) {
            return 1;
        } catch (ReflectiveOperationException e) {
            throw new IllegalStateException(e);
        }
    }

    /** The changed class, with the tests linked to it. */
    private final class Loader extends ClassLoader {
        private final Map<String, byte[]> classes;

        Loader(Map<String, byte[]> classes) {
            super(ClassLoader.getPlatformClassLoader());
            this.classes = classes;
        }

        @Override
        protected Class<?> findClass(String name) throws ClassNotFoundException {
            byte[] bytes = classes.getOrDefault(name, tests.get(name));
            if (bytes == null) {
                throw new ClassNotFoundException(name);
            }
            return defineClass(name, bytes, 0, bytes.length);
        }
    }

    /** A source, or a class, that is in no file. */
    private static final class Piece extends SimpleJavaFileObject {
        private final String source;
        private final ByteArrayOutputStream bytes = new ByteArrayOutputStream();

        Piece(String name, Kind kind, String source) {
            super(URI.create("string:///" + name + kind.extension), kind);
            this.source = source;
        }

        @Override
        public CharSequence getCharContent(boolean ignoreEncodingErrors) {
            return source;
        }

        @Override
        public OutputStream openOutputStream() throws IOException {
            return bytes;
        }
    }
}
