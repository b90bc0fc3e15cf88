import java.io.ByteArrayOutputStream;
import java.io.IOException;
import java.io.OutputStream;
import java.io.PrintStream;
import java.lang.reflect.InvocationTargetException;
import java.lang.reflect.Method;
import java.net.URI;
import java.nio.file.Files;
import java.nio.file.Path;
import java.util.ArrayList;
import java.util.Collection;
import java.util.HashMap;
import java.util.List;
import java.util.Map;
import java.util.Set;
import java.util.TreeSet;
import java.util.concurrent.ExecutionException;
import java.util.concurrent.ExecutorService;
import java.util.concurrent.Executors;
import java.util.concurrent.Future;
import java.util.regex.Matcher;
import java.util.regex.Pattern;
import javax.tools.FileObject;
import javax.tools.ForwardingJavaFileManager;
import javax.tools.JavaCompiler;
import javax.tools.JavaFileManager;
import javax.tools.JavaFileObject;
import javax.tools.SimpleJavaFileObject;
import javax.tools.StandardJavaFileManager;
import javax.tools.ToolProvider;

/**
 * Breaks the program at one place after the other, and looks which tests of BoundariesTest see it. It tells the places
 * that no test sees, and of each sentence the break that its test saw with the fewest others. It is no part of .ci/run:
 * it takes minutes.
 *
 * <p>Its argument is the folder of the compiled tests; each break is loaded together with them anew.
 */
public final class Mutants {
    private static final Path PROGRAM = Path.of("src/main/java/PageInterpreter.java");
    private static final long PATIENCE = 20000;

    /** What is broken, and what is put in its place; the first row that fits a place gives its breaks. */
    private static final String[][] BREAKS = {
        {"<=", "<"}, {">=", ">"}, {"==", "!="}, {"!=", "=="}, {"<<", ">>"}, {">>", "<<"}, {"&&", "||"}, {"||", "&&"},
        {"++", "--", ""}, {"--", "++", ""}, {"+=", "-="}, {"-=", "+="}, {"<", "<=", ">"}, {">", ">=", "<"},
        {"+", "-"}, {"-", "+"}, {"*", "+"}, {"/", "*"}, {"%", "/"}, {"!", ""}, {"true", "false"}, {"false", "true"},
        {"continue", ""}, {"break", ""}
    };
    private static final Pattern PLACE = Pattern.compile(
            "//[^\n]*|/\\*.*?\\*/|\"[^\"\n]*\"|'[^'\n]*'|\\b[0-9]+L?\\b|\\b[A-Za-z_]\\w*\\b|->|<=|>=|==|!=|<<|>>|&&|\\|\\|"
            + "|\\+\\+|--|\\+=|-=|[<>+*/%!-]", Pattern.DOTALL);

    /** A line that does something, and can be left out. */
    private static final Pattern STATEMENT = Pattern.compile("(?m)^ +(?!return|private|public|package|import|static|final|break"
            + "|continue|int |long |boolean |this\\.)[^\n{}/*]*;$");

    private final String source;
    private final Path tests;
    private final JavaCompiler compiler = ToolProvider.getSystemJavaCompiler();

    private Mutants(String source, Path tests) {
        this.source = source;
        this.tests = tests;
    }

    /** A place of the source, and what is put there. */
    private record Break(int from, int to, String with) { }

    /** What came of a break: whether it could be compiled, and what the tests said. */
    private record Outcome(Break broken, boolean compiled, Set<String> failed) {
        /** How many tests saw the break; one that a throw ended early tells least. */
        int width() {
            return failed.stream().anyMatch(f -> f.startsWith("(")) ? 1000 + failed.size() : failed.size();
        }
    }

    public static void main(String[] args) throws IOException, InterruptedException, ExecutionException {
        new Mutants(Files.readString(PROGRAM), Path.of(args[0])).play();
        System.exit(0);
    }

    private void play() throws InterruptedException, ExecutionException {
        PrintStream out = System.out;
        System.setOut(new PrintStream(OutputStream.nullOutputStream()));
        ExecutorService workers = Executors.newFixedThreadPool(Runtime.getRuntime().availableProcessors());
        List<Future<Outcome>> futures = new ArrayList<>();
        for (Break broken : breaks()) {
            futures.add(workers.submit(() -> outcome(broken)));
        }
        Map<String, Outcome> seen = new HashMap<>();
        int compiled = 0;
        int unseen = 0;
        for (Future<Outcome> future : futures) {
            Outcome outcome = future.get();
            compiled += outcome.compiled ? 1 : 0;
            if (outcome.compiled && outcome.failed.isEmpty()) {
                unseen++;
                out.println("not seen: " + describe(outcome.broken));
            }
            outcome.failed.forEach(sentence -> seen.merge(sentence, outcome,
                    (a, b) -> a.width() <= b.width() ? a : b));
        }
        workers.shutdownNow();
        out.println(compiled + " breaks, " + unseen + " not seen by any test");
        for (String sentence : sentences()) {
            Outcome best = seen.get(sentence);
            out.println(sentence + "\n    " + (best == null ? "saw no break"
                    : "saw with " + (best.width() - 1) + " others: " + describe(best.broken)));
        }
    }

    private List<Break> breaks() {
        List<Break> breaks = new ArrayList<>();
        Matcher place = PLACE.matcher(source);
        while (place.find()) {
            String text = place.group();
            if (text.matches("[0-9]+L?")) {
                long value = Long.parseLong(text.replace("L", ""));
                breaks.add(new Break(place.start(), place.end(), Long.toString(value + 1)));
                breaks.add(new Break(place.start(), place.end(), value == 0 ? "-1" : Long.toString(value - 1)));
                continue;
            }
            for (String[] row : BREAKS) {
                for (int i = 1; i < row.length && row[0].equals(text); i++) {
                    breaks.add(new Break(place.start(), place.end(), row[i]));
                }
            }
        }
        Matcher statement = STATEMENT.matcher(source);
        while (statement.find()) {
            breaks.add(new Break(statement.start(), statement.end(), ";"));
        }
        return breaks;
    }

    private String describe(Break broken) {
        int line = 1 + (int) source.substring(0, broken.from).chars().filter(c -> c == '\n').count();
        int from = source.lastIndexOf('\n', broken.from) + 1;
        int to = source.indexOf('\n', broken.to);
        return "line " + line + ": " + source.substring(from, broken.from).strip() + " [["
                + source.substring(broken.from, broken.to).strip() + "]] -> [[" + broken.with + "]] "
                + source.substring(broken.to, to).strip();
    }

    private Outcome outcome(Break broken) throws InterruptedException {
        Map<String, byte[]> classes = compile(
                source.substring(0, broken.from) + broken.with + source.substring(broken.to));
        if (classes == null) {
            return new Outcome(broken, false, Set.of());
        }
        Set<String> failed = new TreeSet<>();
        Loader loader = new Loader(classes, tests);
        Thread thread = new Thread(() -> failed.addAll(failedTests(loader)));
        thread.setDaemon(true);
        thread.start();
        thread.join(PATIENCE);
        if (thread.isAlive()) {
            stop(thread);
            return new Outcome(broken, true, Set.of("(did not end)"));
        }
        return new Outcome(broken, true, failed);
    }

    @SuppressWarnings({"deprecation", "removal"})
    private static void stop(Thread thread) {
        thread.stop();
    }

    /** The sentences whose tests did not get the answers that are due. */
    private static Set<String> failedTests(Loader loader) {
        Set<String> failed = new TreeSet<>();
        try {
            Class<?> check = loader.loadClass("Check");
            try {
                call(loader.loadClass("BoundariesTest"), "compareAll");
            } catch (InvocationTargetException e) {
                failed.add("(" + e.getCause().getClass().getSimpleName() + ")");
                failed.add((String) call(check, "about"));
            }
            for (Object sentence : (Collection<?>) call(check, "failed")) {
                failed.add((String) sentence);
            }
        } catch (ReflectiveOperationException e) {
            failed.add("(" + e + ")");
        }
        return failed;
    }

    private static Object call(Class<?> type, String name) throws ReflectiveOperationException {
        Method method = type.getDeclaredMethod(name);
        method.setAccessible(true);
        return method.invoke(null);
    }

    /** All sentences that a test holds. */
    private List<String> sentences() {
        Loader loader = new Loader(compile(source), tests);
        try {
            call(loader.loadClass("BoundariesTest"), "compareAll");
            List<String> all = new ArrayList<>();
            for (Object sentence : (Collection<?>) call(loader.loadClass("Sentences"), "allHeld")) {
                all.add((String) sentence);
            }
            return all;
        } catch (ReflectiveOperationException e) {
            throw new IllegalStateException(e);
        }
    }

    /** Compiles a source in memory; null if it is not Java. */
    private Map<String, byte[]> compile(String text) {
        Map<String, ByteArrayOutputStream> classes = new HashMap<>();
        StandardJavaFileManager standard = compiler.getStandardFileManager(d -> { }, null, null);
        JavaFileManager files = new ForwardingJavaFileManager<JavaFileManager>(standard) {
            @Override
            public JavaFileObject getJavaFileForOutput(Location location, String name, JavaFileObject.Kind kind,
                    FileObject sibling) {
                return new SimpleJavaFileObject(URI.create("mem:///" + name.replace('$', '_')), kind) {
                    @Override
                    public OutputStream openOutputStream() {
                        return classes.computeIfAbsent(name, n -> new ByteArrayOutputStream());
                    }
                };
            }
        };
        JavaFileObject program = new SimpleJavaFileObject(URI.create("mem:///PageInterpreter.java"),
                JavaFileObject.Kind.SOURCE) {
            @Override
            public CharSequence getCharContent(boolean ignoreErrors) {
                return text;
            }
        };
        if (!compiler.getTask(null, files, d -> { }, List.of("-proc:none"), null, List.of(program)).call()) {
            return null;
        }
        Map<String, byte[]> bytes = new HashMap<>();
        classes.forEach((name, stream) -> bytes.put(name, stream.toByteArray()));
        return bytes;
    }

    /** Loads the classes of a broken program, and those of the tests anew. */
    private static final class Loader extends ClassLoader {
        private final Map<String, byte[]> classes;
        private final Path tests;

        Loader(Map<String, byte[]> classes, Path tests) {
            super(ClassLoader.getPlatformClassLoader());
            this.classes = classes;
            this.tests = tests;
        }

        @Override
        protected Class<?> findClass(String name) throws ClassNotFoundException {
            byte[] bytes = classes.get(name);
            try {
                if (bytes == null) {
                    bytes = Files.readAllBytes(tests.resolve(name + ".class"));
                }
            } catch (IOException e) {
                throw new ClassNotFoundException(name, e);
            }
            return defineClass(name, bytes, 0, bytes.length);
        }
    }
}
