import java.io.IOException;
import java.lang.reflect.Constructor;
import java.lang.reflect.Field;
import java.lang.reflect.Method;
import java.lang.reflect.Modifier;
import java.nio.file.Files;
import java.nio.file.Path;
import java.util.ArrayList;
import java.util.HashSet;
import java.util.List;
import java.util.Set;
import java.util.TreeSet;
import java.util.regex.Matcher;
import java.util.regex.Pattern;

/** The face, as the document gives it, and those rules of LANGUAGE.md that can be seen from outside. */
public final class LanguageTest {
    private static final String[] FACE = {
        "int person(int, int)", "int thing(int, int, int, int)", "int lie(int, int)", "int tells(int, int, int)",
        "int of(int, int)", "int row(int, int, int)", "int feed(int)", "int evening()", "int told(int)",
        "int doubt(int, int, int)", "int round(int)", "int guess(int, int)", "int hands(int, int)",
        "int order(int, int)", "int likely(int, int)", "int best(int, int)", "int first(int, int, int)",
        "int line(int, int)", "int worth(int)", "int see(int, int)", "int lies(int)", "int ends(int, int, int)",
        "long odds(int, int)", "long mean(int)", "int book(int, int, int)", "int looked()", "int judge(int, int)",
        "int image()", "int undo()", "int act(int, int, int)", "int trace(int)", "int taken(int, int)",
        "int count(int)", "int tape(int, int, int)", "int item(int, int, long)", "long read(int, int)",
        "int shift(int, int, int, int, int)"};

    private LanguageTest() { }

    private static String told(Method m) {
        StringBuilder s = new StringBuilder(m.getReturnType().getName()).append(' ').append(m.getName());
        s.append('(');
        for (Class<?> type : m.getParameterTypes()) {
            s.append(s.charAt(s.length() - 1) == '(' ? "" : ", ").append(type.getName());
        }
        return s.append(')').toString();
    }

    private static void face() {
        Check.group("rule 1");
        Set<String> is = new TreeSet<>();
        Set<String> publicNames = new HashSet<>();
        for (Method m : TwoTrue.class.getDeclaredMethods()) {
            if (Modifier.isPublic(m.getModifiers())) {
                is.add(told(m));
                publicNames.add(m.getName());
                Check.holds(m + " is no static one", !Modifier.isStatic(m.getModifiers()));
            } else {
                Check.holds(m + " is private", Modifier.isPrivate(m.getModifiers()));
            }
        }
        Check.holds("the methods are those of the face", is.equals(new TreeSet<>(List.of(FACE))));
        Set<String> constants = new TreeSet<>();
        for (Field f : TwoTrue.class.getDeclaredFields()) {
            if (Modifier.isPublic(f.getModifiers())) {
                constants.add(f.getType() + " " + f.getName());
                Check.holds(f + " is a constant",
                        Modifier.isStatic(f.getModifiers()) && Modifier.isFinal(f.getModifiers()));
            } else {
                Check.holds(f + " is private", Modifier.isPrivate(f.getModifiers()));
            }
        }
        Check.holds("the constants are those of the face", constants.equals(
                new TreeSet<>(List.of("int NONE", "int BAD", "int STATE", "int FULL", "long NO"))));
        Constructor<?>[] made = TwoTrue.class.getDeclaredConstructors();
        Check.holds("one public constructor without arguments", made.length == 1
                && Modifier.isPublic(made[0].getModifiers()) && made[0].getParameterCount() == 0);
        Check.holds("public and final", Modifier.isPublic(TwoTrue.class.getModifiers())
                && Modifier.isFinal(TwoTrue.class.getModifiers()));
        Check.holds("extends nothing", TwoTrue.class.getSuperclass() == Object.class
                && TwoTrue.class.getInterfaces().length == 0);
        for (Class<?> inside : TwoTrue.class.getDeclaredClasses()) {
            for (Method m : inside.getDeclaredMethods()) {
                Check.holds(m + " bears no public name", !publicNames.contains(m.getName()));
            }
        }
    }

    private static void classes() {
        Check.group("rules 2, 5, 11");
        List<Class<?>> all = new ArrayList<>(List.of(TwoTrue.class.getDeclaredClasses()));
        for (Class<?> inside : all) {
            Check.holds(inside + " is static, not public", Modifier.isStatic(inside.getModifiers())
                    && !Modifier.isPublic(inside.getModifiers()) && inside.getDeclaredClasses().length == 0);
        }
        all.add(TwoTrue.class);
        Check.holds("twelve classes at most", all.size() <= 12);
        for (Class<?> c : all) {
            int fields = 0;
            for (Field f : c.getDeclaredFields()) {
                if (Modifier.isStatic(f.getModifiers())) {
                    Check.holds(f + " is final", Modifier.isFinal(f.getModifiers()));
                } else {
                    fields++;
                }
            }
            Check.holds(c + " has twenty fields at most", fields <= 20);
            for (Method m : c.getDeclaredMethods()) {
                Check.holds(m + " has seven parameters at most", m.getParameterCount() <= 7);
                Check.holds(m + " is no lambda", !m.isSynthetic());
            }
        }
    }

    /** The source with its comments and what stands in its texts taken out, line for line. */
    private static String bare(String source) {
        Matcher m = Pattern.compile("//[^\n]*|/\\*.*?\\*/|\"(?:\\\\.|[^\"\\\\])*\"|'(?:\\\\.|[^'\\\\])+'",
                Pattern.DOTALL).matcher(source);
        StringBuilder s = new StringBuilder();
        while (m.find()) {
            m.appendReplacement(s, "~" + m.group().replaceAll("[^\n]", ""));
        }
        return m.appendTail(s).toString();
    }

    private static void source() throws IOException {
        Check.group("rules 3, 4, 6, 10");
        String s = bare(Files.readString(Path.of("src/main/java/TwoTrue.java")));
        for (String word : new String[] {"throw", "throws", "try", "catch", "synchronized", "assert", "import",
            "package", "instanceof", "record", "yield", "var", "double", "float", "Object", "equals", "hashCode",
            "toString", "volatile", "native", "transient", "protected"}) {
            Check.holds("no word " + word, !Pattern.compile("\\b" + word + "\\b").matcher(s).find());
        }
        for (String sign : new String[] {"->", "::", "...", "@", "[][]"}) {
            Check.holds("no sign " + sign, !s.contains(sign));
        }
        Matcher m = Pattern.compile("\\b([A-Z]\\w*[a-z]\\w*)\\b").matcher(s);
        Set<String> own = new HashSet<>(List.of("TwoTrue", "String", "System", "Long"));
        for (Class<?> c : TwoTrue.class.getDeclaredClasses()) {
            own.add(c.getSimpleName());
        }
        own.add("E");
        while (m.find()) {
            String name = m.group(1);
            Check.holds("the name " + name + " is known", own.contains(name) || name.startsWith("read"));
        }
        lengths(s);
    }

    private static void lengths(String s) {
        Check.group("rule 11");
        String[] lines = s.split("\n", -1);
        Pattern head = Pattern.compile("^( {4}| {8})[a-zA-Z][\\w\\[\\] ]*\\([^;=]*\\) \\{$");
        for (int i = 0; i < lines.length; i++) {
            Matcher m = head.matcher(lines[i]);
            if (!m.find()) {
                continue;
            }
            int end = i;
            while (!lines[end].equals(m.group(1) + "}")) {
                end++;
            }
            Check.holds(lines[i].trim() + " has sixty lines at most", end - i <= 60);
        }
    }

    public static void main(String[] args) throws IOException {
        face();
        classes();
        source();
        Check.end("LanguageTest");
    }
}
