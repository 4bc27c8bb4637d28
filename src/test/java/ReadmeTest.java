import java.io.IOException;
import java.lang.reflect.Method;
import java.lang.reflect.Modifier;
import java.nio.charset.StandardCharsets;
import java.nio.file.Files;
import java.nio.file.Path;
import java.util.ArrayList;
import java.util.List;
import java.util.regex.Matcher;
import java.util.regex.Pattern;
import javax.tools.ToolProvider;

/** README.md: its examples answer what it says they answer, and it names every call of the face. */
public final class ReadmeTest {
    private static final Pattern ANSWER = Pattern.compile("\\s*(.*); +// answers (-?\\w+).*");

    private static int wrong;

    public static void main(String[] args) throws Exception {
        String readme = Files.readString(Path.of(System.getProperty("project", "."), "README.md"));
        names(readme);
        market(block(readme, "java"));
        script(block(readme, "text"));
        System.out.println(wrong == 0 ? "README.md is as the class" : wrong + " points of README.md are wrong");
        System.exit(wrong == 0 ? 0 : 1);
    }

    private static void need(boolean holds, String what) {
        if (!holds) {
            wrong++;
            System.out.println("not so: " + what);
        }
    }

    private static String block(String readme, String kind) {
        Matcher block = Pattern.compile("(?s)```" + kind + "\n(.*?)```").matcher(readme);
        boolean there = block.find();
        need(there, "README.md has an example in " + kind);
        return there ? block.group(1) : "";
    }

    private static void names(String readme) {
        for (Method m : ProphetLiable.class.getDeclaredMethods()) {
            if (Modifier.isPublic(m.getModifiers())) {
                need(readme.contains("`" + m.getName() + "`"), "README.md names `" + m.getName() + "`");
            }
        }
    }

    /** The example, each line that tells an answer being looked at, is compiled and run. */
    private static void market(String block) throws Exception {
        StringBuilder body = new StringBuilder();
        int answers = 0;
        for (String line : block.split("\n")) {
            Matcher told = ANSWER.matcher(line);
            if (told.matches()) {
                answers++;
                body.append("answers.add(\"").append(told.group(1)).append(" answered \" + ").append(told.group(1))
                    .append(" + \", README.md says ").append(told.group(2)).append("\");\n");
            } else {
                body.append(line).append('\n');
            }
        }
        need(answers > 0, "the example tells answers");
        for (String line : run(body.toString())) {
            Matcher both = Pattern.compile(".* answered (\\S+), README.md says (\\S+)").matcher(line);
            need(both.matches() && both.group(1).equals(both.group(2)), line);
        }
    }

    private static List<String> run(String body) throws Exception {
        Path place = Files.createTempDirectory("readme");
        try {
            Path source = place.resolve("Example.java");
            Files.writeString(source, "public class Example {\n"
                + "public static void run(java.util.List<String> answers) {\n" + body + "}\n}\n");
            Path classes = Path.of(ProphetLiable.class.getProtectionDomain().getCodeSource().getLocation().toURI());
            int code = ToolProvider.getSystemJavaCompiler().run(null, null, null, "-nowarn", "-proc:none",
                "-cp", classes.toString(), "-d", place.toString(), source.toString());
            need(code == 0, "the example compiles");
            List<String> answers = new ArrayList<>();
            if (code == 0) {
                try (java.net.URLClassLoader loader = new java.net.URLClassLoader(
                    new java.net.URL[] {place.toUri().toURL()}, ReadmeTest.class.getClassLoader())) {
                    loader.loadClass("Example").getMethod("run", List.class).invoke(null, answers);
                }
            }
            return answers;
        } finally {
            remove(place);
        }
    }

    private static void remove(Path place) throws IOException {
        try (var files = Files.list(place)) {
            for (Path file : files.toList()) {
                Files.delete(file);
            }
        }
        Files.delete(place);
    }

    /** The TEXT has no FAULT and can be played from its first CLAUSE to its last. */
    private static void script(String block) {
        ProphetLiable market = new ProphetLiable();
        byte[] bytes = block.getBytes(StandardCharsets.ISO_8859_1);
        int[] words = new int[(bytes.length + 19) / 20 * 5];
        for (int i = 0; i < bytes.length; i++) {
            words[i / 4] |= (bytes[i] & 255) << 24 - i % 4 * 8;
        }
        for (int i = 0; i < words.length; i += 5) {
            market.feed(words[i], words[i + 1], words[i + 2], words[i + 3], words[i + 4]);
        }
        need(market.end(bytes.length) == bytes.length, "the TEXT has its place on the tape");
        need(market.text() == 0, "the TEXT can be read: FAULT " + market.fault(0) + " at " + market.fault(1));
        need(market.by(0) && market.played(0) == ProphetLiable.NONE, "the TEXT can be played");
    }
}
