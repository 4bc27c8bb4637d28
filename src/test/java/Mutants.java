import java.io.ByteArrayOutputStream;
import java.io.InputStream;
import java.io.OutputStream;
import java.io.StringWriter;
import java.lang.reflect.Method;
import java.net.URI;
import java.nio.file.Files;
import java.nio.file.Path;
import java.util.ArrayList;
import java.util.HashMap;
import java.util.List;
import java.util.Map;
import java.util.Set;
import java.util.concurrent.ExecutorService;
import java.util.concurrent.Executors;
import java.util.concurrent.Future;
import java.util.regex.Matcher;
import java.util.regex.Pattern;
import javax.tools.FileObject;
import javax.tools.ForwardingJavaFileManager;
import javax.tools.JavaCompiler;
import javax.tools.JavaFileManager;
import javax.tools.JavaFileObject;
import javax.tools.SimpleJavaFileObject;
import javax.tools.ToolProvider;

/**
 * Spoils the class in one place after the other (a sign, a number, a condition, a line) and tells
 * where none of the BoundaryTests fails by it. It takes some minutes, so .ci/run leaves it aside;
 * those that are left should be tests of indexes alone, or change nothing that can be seen.
 */
public final class Mutants {
    private static final String[] TESTS = {
        "TermsBoundaryTest", "TextBoundaryTest", "QuestionBoundaryTest", "PromiseBoundaryTest"};
    private static final String[] HELP = {"Check", "TextMaker"};

    private static final Map<String, String[]> SIGNS = Map.ofEntries(
        Map.entry("<", new String[] {"<=", ">="}), Map.entry("<=", new String[] {"<"}),
        Map.entry(">", new String[] {">=", "<="}), Map.entry(">=", new String[] {">"}),
        Map.entry("==", new String[] {"!="}), Map.entry("!=", new String[] {"=="}),
        Map.entry("&&", new String[] {"||"}), Map.entry("||", new String[] {"&&"}),
        Map.entry("+", new String[] {"-"}), Map.entry("-", new String[] {"+"}),
        Map.entry("*", new String[] {"/"}), Map.entry("/", new String[] {"*"}), Map.entry("%", new String[] {"/"}),
        Map.entry("&", new String[] {"|"}), Map.entry("|", new String[] {"&"}),
        Map.entry("~", new String[] {""}), Map.entry("!", new String[] {""}),
        Map.entry("<<", new String[] {">>"}), Map.entry(">>", new String[] {"<<"}),
        Map.entry("+=", new String[] {"-="}), Map.entry("-=", new String[] {"+="}),
        Map.entry("|=", new String[] {"&="}),
        Map.entry("true", new String[] {"false"}), Map.entry("false", new String[] {"true"}),
        Map.entry("Math.min", new String[] {"Math.max"}), Map.entry("Math.max", new String[] {"Math.min"}));

    private static final Pattern ASIDE = Pattern.compile(
        "(?s)/\\*.*?\\*/|//[^\n]*|\"[^\"\n]*\"|'(\\\\.|[^'\\\\])'|import [^\n]*");
    private static final Pattern SIGN = Pattern.compile(
        "<=|>=|==|!=|&&|\\|\\||<<|>>|\\+\\+|--|\\+=|-=|\\|=|\\^=|[<>+\\-*/%&|~!]|\\b(\\d+|true|false)\\b|Math\\.m(in|ax)");
    private static final Pattern CONDITION = Pattern.compile("(?m)^ +(?:\\} else )?if \\((.*)\\) \\{$");
    private static final Pattern LINE = Pattern.compile("(?m)^ +([\\w.\\[\\]]+(\\(.*\\)| [-+|^]?= .*|\\+\\+));$");

    private record Mutant(int line, String what, String source) {
    }

    public static void main(String[] args) throws Exception {
        String root = System.getProperty("project", ".");
        List<Mutant> mutants = mutantsOf(Files.readString(Path.of(root, "src/main/java/ProphetLiable.java")));
        ExecutorService pool = Executors.newFixedThreadPool(Runtime.getRuntime().availableProcessors());
        List<Future<String>> fates = new ArrayList<>();
        for (Mutant m : mutants) {
            fates.add(pool.submit(() -> fateOf(m)));
        }
        Map<String, Integer> counts = new HashMap<>();
        for (int i = 0; i < mutants.size(); i++) {
            String fate = fates.get(i).get();
            counts.merge(fate, 1, Integer::sum);
            if (fate.equals("left")) {
                System.out.println("line " + mutants.get(i).line + ": " + mutants.get(i).what);
            }
        }
        System.out.println(counts);
        System.exit(0);
    }

    private static List<Mutant> mutantsOf(String source) {
        char[] signs = source.toCharArray();
        Matcher aside = ASIDE.matcher(source);
        while (aside.find()) {
            for (int i = aside.start(); i < aside.end(); i++) {
                signs[i] = signs[i] == '\n' ? '\n' : '@';
            }
        }
        String code = new String(signs);
        List<Mutant> list = new ArrayList<>();
        for (Matcher m = SIGN.matcher(code); m.find();) {
            for (String other : othersOf(m.group())) {
                list.add(mutant(source, m.start(), m.end(), other));
            }
        }
        for (Matcher m = CONDITION.matcher(code); m.find();) {
            list.add(mutant(source, m.start(1), m.end(1), "true"));
            list.add(mutant(source, m.start(1), m.end(1), "false"));
        }
        for (Matcher m = LINE.matcher(code); m.find();) {
            list.add(mutant(source, m.start(1), m.end(1), ""));
        }
        return list;
    }

    private static String[] othersOf(String sign) {
        if (sign.matches("\\d+")) {
            long number = Long.parseLong(sign);
            return new String[] {"" + (number + 1), "(" + (number - 1) + ")"};
        }
        return SIGNS.getOrDefault(sign, new String[0]);
    }

    private static Mutant mutant(String source, int from, int to, String other) {
        int line = (int) source.substring(0, from).chars().filter(c -> c == '\n').count() + 1;
        int start = source.lastIndexOf('\n', from) + 1;
        String what = source.substring(start, from) + "[" + source.substring(from, to) + " -> " + other + "]"
            + source.substring(to, source.indexOf('\n', to));
        return new Mutant(line, what.trim(), source.substring(0, from) + other + source.substring(to));
    }

    /** Whether it is found by a test, or left, or no Java. */
    private static String fateOf(Mutant mutant) throws Exception {
        Map<String, byte[]> classes = compiled(mutant.source);
        if (classes.isEmpty()) {
            return "no Java";
        }
        for (String name : TESTS) {
            classes.put(name, bytesOf(name));
        }
        for (String name : HELP) {
            classes.put(name, bytesOf(name));
        }
        String[] fate = {"found: it doesn't end"};
        Thread thread = new Thread(() -> fate[0] = judged(new Loader(classes)));
        thread.setDaemon(true);
        thread.start();
        thread.join(60000);
        return fate[0];
    }

    private static String judged(Loader loader) {
        try {
            Method failing = loader.loadClass("Check").getDeclaredMethod("failing", Class.class);
            failing.setAccessible(true);
            for (String name : TESTS) {
                if (!((Set<?>) failing.invoke(null, loader.loadClass(name))).isEmpty()) {
                    return "found";
                }
            }
            return "left";
        } catch (ReflectiveOperationException | LinkageError e) {
            return "found: it can't be run";
        }
    }

    private static byte[] bytesOf(String name) throws Exception {
        try (InputStream in = Mutants.class.getResourceAsStream("/" + name + ".class")) {
            return in.readAllBytes();
        }
    }

    /** Knows the spoilt class and the tests, and nothing else of this project. */
    private static final class Loader extends ClassLoader {
        private final Map<String, byte[]> classes;

        Loader(Map<String, byte[]> classes) {
            super(ClassLoader.getPlatformClassLoader());
            this.classes = classes;
        }

        @Override
        protected Class<?> findClass(String name) throws ClassNotFoundException {
            byte[] bytes = classes.get(name);
            if (bytes == null) {
                throw new ClassNotFoundException(name);
            }
            return defineClass(name, bytes, 0, bytes.length);
        }
    }

    /** Its classes by their names; none if it doesn't compile. */
    private static Map<String, byte[]> compiled(String source) {
        JavaCompiler compiler = ToolProvider.getSystemJavaCompiler();
        Map<String, ByteArrayOutputStream> written = new HashMap<>();
        JavaFileManager files = new ForwardingJavaFileManager<JavaFileManager>(
            compiler.getStandardFileManager(d -> { }, null, null)) {
            @Override
            public JavaFileObject getJavaFileForOutput(Location place, String name, JavaFileObject.Kind kind,
                FileObject sibling) {
                return new SimpleJavaFileObject(URI.create("mem:///" + name + ".class"), kind) {
                    @Override
                    public OutputStream openOutputStream() {
                        return written.computeIfAbsent(name, n -> new ByteArrayOutputStream());
                    }
                };
            }
        };
        JavaFileObject file = new SimpleJavaFileObject(URI.create("mem:///ProphetLiable.java"),
            JavaFileObject.Kind.SOURCE) {
            @Override
            public CharSequence getCharContent(boolean ignoreErrors) {
                return source;
            }
        };
        boolean whole = compiler.getTask(new StringWriter(), files, d -> { }, List.of("-nowarn", "-proc:none"), null,
            List.of(file)).call();
        Map<String, byte[]> classes = new HashMap<>();
        if (whole) {
            written.forEach((name, bytes) -> classes.put(name, bytes.toByteArray()));
        }
        return classes;
    }
}
