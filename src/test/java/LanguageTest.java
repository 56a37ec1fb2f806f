import java.lang.reflect.Constructor;
import java.lang.reflect.Field;
import java.lang.reflect.Method;
import java.lang.reflect.Modifier;
import java.util.HashSet;
import java.util.List;
import java.util.Set;
import java.util.TreeSet;

/** The face, as the document gives it: rule 1 of LANGUAGE.md. */
public final class LanguageTest {
    private static final String[] FACE = {
        "int person(int, int)", "int thing(int, int, int, int)", "int lie(int, int)", "int tells(int, int, int)",
        "int of(int, int)", "int row(int, int, int)", "int feed(int)", "int evening()", "int told(int)",
        "int doubt(int, int, int)", "int round(int)", "int guess(int, int)", "int hands(int, int)",
        "int order(int, int)", "int likely(int, int)", "int best(int, int)", "int first(int, int, int)",
        "int line(int, int)", "int worth(int)", "int see(int, int)", "int lies(int)", "int ends(int, int, int)",
        "long odds(int, int)", "long mean(int)", "int book(int, int, int)", "int looked()", "int judge(int, int)",
        "int image()", "int undo()", "int act(int, int, int)", "int trace(int)", "int taken(int, int)",
        "int count(int)", "int tape(int, int, int)", "int item(int, int, long)", "long read(int, int)",
        "int shift(int, int, int, int, int)"};

    private LanguageTest() { }

    private static String told(Method m) {
        StringBuilder s = new StringBuilder(m.getReturnType().getName()).append(' ').append(m.getName());
        s.append('(');
        for (Class<?> type : m.getParameterTypes()) {
            s.append(s.charAt(s.length() - 1) == '(' ? "" : ", ").append(type.getName());
        }
        return s.append(')').toString();
    }

    private static void face() {
        Check.group("rule 1");
        Set<String> is = new TreeSet<>();
        Set<String> publicNames = new HashSet<>();
        for (Method m : TwoTrue.class.getDeclaredMethods()) {
            if (Modifier.isPublic(m.getModifiers())) {
                is.add(told(m));
                publicNames.add(m.getName());
                Check.holds(m + " is no static one", !Modifier.isStatic(m.getModifiers()));
            } else {
                Check.holds(m + " is private", Modifier.isPrivate(m.getModifiers()));
            }
        }
        for (Method m : TwoTrue.class.getDeclaredMethods()) {
            Check.holds(m + " bears no public name",
                    Modifier.isPublic(m.getModifiers()) || !publicNames.contains(m.getName()));
        }
        Check.holds("the methods are those of the face", is.equals(new TreeSet<>(List.of(FACE))));
        Set<String> constants = new TreeSet<>();
        for (Field f : TwoTrue.class.getDeclaredFields()) {
            if (Modifier.isPublic(f.getModifiers())) {
                constants.add(f.getType() + " " + f.getName());
                Check.holds(f + " is a constant",
                        Modifier.isStatic(f.getModifiers()) && Modifier.isFinal(f.getModifiers()));
            } else {
                Check.holds(f + " is private", Modifier.isPrivate(f.getModifiers()));
            }
        }
        Check.holds("the constants are those of the face", constants.equals(
                new TreeSet<>(List.of("int NONE", "int BAD", "int STATE", "int FULL", "long NO"))));
        Constructor<?>[] made = TwoTrue.class.getDeclaredConstructors();
        Check.holds("one public constructor without arguments", made.length == 1
                && Modifier.isPublic(made[0].getModifiers()) && made[0].getParameterCount() == 0);
        Check.holds("public and final", Modifier.isPublic(TwoTrue.class.getModifiers())
                && Modifier.isFinal(TwoTrue.class.getModifiers()));
        Check.holds("extends nothing", TwoTrue.class.getSuperclass() == Object.class
                && TwoTrue.class.getInterfaces().length == 0);
        for (Class<?> inside : TwoTrue.class.getDeclaredClasses()) {
            for (Method m : inside.getDeclaredMethods()) {
                Check.holds(m + " bears no public name", !publicNames.contains(m.getName()));
            }
        }
    }

    private static void classes() {
        Check.group("rule 1, classes inside");
        for (Class<?> inside : TwoTrue.class.getDeclaredClasses()) {
            int is = inside.getModifiers();
            Check.holds(inside + " is static, not public, not protected",
                    Modifier.isStatic(is) && !Modifier.isPublic(is) && !Modifier.isProtected(is));
        }
    }

    public static void main(String[] args) {
        face();
        classes();
        Check.end("LanguageTest");
    }
}
