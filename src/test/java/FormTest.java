import java.lang.reflect.Array;
import java.lang.reflect.Constructor;
import java.lang.reflect.Field;
import java.lang.reflect.Method;
import java.lang.reflect.Modifier;
import java.nio.charset.StandardCharsets;
import java.nio.file.Files;
import java.nio.file.Path;
import java.util.ArrayDeque;
import java.util.ArrayList;
import java.util.Arrays;
import java.util.Deque;
import java.util.IdentityHashMap;
import java.util.List;
import java.util.Map;
import java.util.Set;
import java.util.TreeSet;
import java.util.regex.Matcher;
import java.util.regex.Pattern;

/** The document's face, the rules of LANGUAGE.md that can be looked at by a program, and the room. */
public final class FormTest {
    private static final String[] FACE = {
        "int fact(int,int)", "int prophet(int,int)", "int feed(int,int,int,int,int)", "int end(int)", "int text()",
        "int fault(int)", "boolean by(int)", "int foretell(int,boolean,int,int,int)", "boolean bring(int,int)",
        "boolean spoil(int,int)", "boolean sell(int,int,int)", "int day(int)", "int played(int)",
        "int years(int,int)", "int undo()", "int of(int,int)", "int ofFact(int,int)", "int word(int,int)",
        "int is(int)", "int book(int,int)", "int ahead(int,int,int)", "int until(int)",
        "long odds(boolean,int,int,boolean)", "int least(int,boolean)", "int stop(int)",
        "int offer(boolean,int,int,int)", "int purse(int,boolean)", "int worst(int)", "int heard(int,boolean)",
        "int worlds(int,int)", "int tells(int)", "int duel(boolean,boolean)",
        "long fair(boolean,int,int,int,boolean)", "int owed(int,int)", "int whose()", "int famous()",
        "int richest()", "int ruined()", "int idle()", "int ledger(int)", "int image()", "int back()",
        "int about(int)"};

    private static int wrong;

    private static void need(boolean holds, String what) {
        if (!holds) {
            wrong++;
            System.out.println("not so: " + what);
        }
    }

    public static void main(String[] args) throws Exception {
        face();
        classes();
        source();
        room();
        System.out.println(wrong == 0 ? "the form is as it should be" : wrong + " points of the form are wrong");
        System.exit(wrong == 0 ? 0 : 1);
    }

    private static void face() throws Exception {
        Class<?> type = ProphetLiable.class;
        need(Modifier.isPublic(type.getModifiers()) && Modifier.isFinal(type.getModifiers()), "public final class");
        Set<String> methods = new TreeSet<>();
        for (Method m : type.getDeclaredMethods()) {
            if (!Modifier.isPrivate(m.getModifiers()) && !m.isSynthetic()) {
                String types = Arrays.toString(m.getParameterTypes()).replaceAll("[\\[\\] ]", "");
                methods.add(m.getReturnType() + " " + m.getName() + "(" + types + ")");
                need(Modifier.isPublic(m.getModifiers()), m + " is public");
                need(!Modifier.isStatic(m.getModifiers()), m + " isn't static");
            }
        }
        need(methods.equals(new TreeSet<>(Arrays.asList(FACE))), "the methods are those of the document: " + methods);
        for (Field f : type.getDeclaredFields()) {
            need(Modifier.isPrivate(f.getModifiers()) || f.getName().equals("NONE"), f + " is private");
        }
        Field none = type.getDeclaredField("NONE");
        need(none.getModifiers() == (Modifier.PUBLIC | Modifier.STATIC | Modifier.FINAL), "NONE is a public constant");
        need(none.getInt(null) == -1, "NONE is -1");
        Constructor<?>[] made = type.getDeclaredConstructors();
        need(made.length == 1 && made[0].getParameterCount() == 0 && Modifier.isPublic(made[0].getModifiers()),
            "one public constructor");
    }

    private static void classes() throws Exception {
        List<Class<?>> all = new ArrayList<>(List.of(ProphetLiable.class.getDeclaredClasses()));
        Set<String> names = new TreeSet<>();
        for (String line : FACE) {
            names.add(line.replaceAll("^\\w+ (\\w+)\\(.*", "$1"));
        }
        all.add(ProphetLiable.class);
        need(all.size() <= 12, "at most twelve classes");
        for (Class<?> type : all) {
            boolean inside = type != ProphetLiable.class;
            need(!inside || Modifier.isStatic(type.getModifiers()), type + " is static");
            need(type.getDeclaredClasses().length == 0 || !inside, type + " has no classes inside");
            int fields = 0;
            for (Field f : type.getDeclaredFields()) {
                boolean constant = Modifier.isStatic(f.getModifiers());
                fields += constant ? 0 : 1;
                need(!constant || Modifier.isFinal(f.getModifiers()), f + " is final");
            }
            need(fields <= 20, type + " has at most twenty fields");
            for (Method m : type.getDeclaredMethods()) {
                need(m.getParameterCount() <= 7, m + " takes at most seven");
                boolean ofFace = Modifier.isPublic(m.getModifiers()) && !inside;
                need(ofFace || !names.contains(m.getName()), m + " has a name of its own");
            }
            String file = "/" + type.getName() + ".class";
            String bytes = new String(type.getResourceAsStream(file).readAllBytes(), StandardCharsets.ISO_8859_1);
            for (String no : new String[] {"makeConcat", "LambdaMetafactory", "java/lang/Exception",
                "java/lang/Throwable", "java/lang/RuntimeException", "java/util/Random", "currentTimeMillis"}) {
                need(!bytes.contains(no), type + " doesn't use " + no);
            }
        }
    }

    /** The source without its comments and what stands in quotes. */
    private static String bare(String source) {
        return source.replaceAll("(?s)/\\*.*?\\*/", "").replaceAll("//[^\n]*", "")
            .replaceAll("\"[^\"\n]*\"", "\"\"").replaceAll("'(\\\\.|[^'\\\\])'", "' '");
    }

    private static void source() throws Exception {
        String root = System.getProperty("project", ".");
        String source = Files.readString(Path.of(root, "src/main/java/ProphetLiable.java"));
        String code = bare(source);
        for (String word : new String[] {"throw", "throws", "try", "catch", "finally", "synchronized", "assert",
            "package", "volatile", "native", "var", "Object", "goto", "protected", "equals", "hashCode", "toString"}) {
            need(!Pattern.compile("\\b" + word + "\\b").matcher(code).find(), "the source has no " + word);
        }
        need(!code.contains("->") && !code.contains("::"), "the source has no lambda and no method reference");
        need(source.chars().allMatch(c -> c == '\n' || c >= 32 && c < 127), "the source has plain signs alone");
        Matcher imports = Pattern.compile("import ([^;]+);").matcher(code);
        while (imports.find()) {
            need(imports.group(1).equals("java.util.Arrays"), "import " + imports.group(1));
        }
        Matcher library = Pattern.compile("\\b(Math|Integer|Long|System|Arrays)\\.(\\w+)").matcher(code);
        while (library.find()) {
            need(Set.of("max", "min", "bitCount", "arraycopy", "fill").contains(library.group(2)), library.group());
        }
        lengths(code);
    }

    private static void lengths(String code) {
        String[] lines = code.split("\n", -1);
        Pattern head = Pattern.compile("^(    |        )[^ /*].*\\) \\{$");
        int start = -1;
        String close = null;
        for (int i = 0; i < lines.length; i++) {
            Matcher m = head.matcher(lines[i]);
            if (close == null && m.find()) {
                start = i;
                close = m.group(1) + "}";
            } else if (close != null && lines[i].equals(close)) {
                need(i - start < 60, "a method of at most sixty lines: " + lines[start]);
                close = null;
            }
        }
    }

    /** Objects and arrays that a new object holds, with all their fields and elements. */
    private static void room() throws Exception {
        long[] count = new long[2];
        Map<Object, Boolean> seen = new IdentityHashMap<>();
        Deque<Object> open = new ArrayDeque<>();
        open.add(new ProphetLiable());
        while (!open.isEmpty()) {
            Object o = open.remove();
            if (seen.put(o, true) != null) {
                continue;
            }
            count[0]++;
            if (o.getClass().isArray()) {
                count[1] += Array.getLength(o);
                for (int i = 0; i < Array.getLength(o) && !o.getClass().getComponentType().isPrimitive(); i++) {
                    if (Array.get(o, i) != null) {
                        open.add(Array.get(o, i));
                    }
                }
                continue;
            }
            for (Field f : o.getClass().getDeclaredFields()) {
                if (!Modifier.isStatic(f.getModifiers())) {
                    count[1]++;
                    f.setAccessible(true);
                    if (!f.getType().isPrimitive() && f.get(o) != null) {
                        open.add(f.get(o));
                    }
                }
            }
        }
        System.out.println("a new object holds " + count[0] + " objects, " + count[1] + " fields and elements");
        need(count[0] <= 600 && count[1] <= 14000, "512 new objects are within the room");
    }
}
