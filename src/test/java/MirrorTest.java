import java.lang.reflect.Method;
import java.lang.reflect.Modifier;
import java.util.ArrayList;
import java.util.List;

/** Long runs of calls, drawn by a fixed row of numbers, on TwoTrue and on Mirror: all answers are alike. */
public final class MirrorTest {
    private static final int OBJECTS = 1500;
    private static final int CALLS = 512;

    private static long seed = 20240517L;

    private static int draw(int below) {
        seed = seed * 6364136223846793005L + 1442695040888963407L;
        return (int) ((seed >>> 33) % below);
    }

    private static final class Face {
        final Method here;
        final Method there;

        Face(Method here, Method there) {
            this.here = here;
            this.there = there;
        }
    }

    private static TwoTrue here;
    private static Mirror there;
    private static final List<String> calls = new ArrayList<>();
    private static int wrong = 0;
    private static long asked = 0;

    private static void call(Face f, Object... args) throws Exception {
        long got = ((Number) f.here.invoke(here, args)).longValue();
        long want = ((Number) f.there.invoke(there, args)).longValue();
        asked++;
        StringBuilder told = new StringBuilder(f.here.getName());
        for (Object a : args) {
            told.append(' ').append(a);
        }
        calls.add(told + " -> " + got);
        if (got != want) {
            wrong++;
            System.out.println(told + " answered " + got + ", due is " + want + ", behind:");
            System.out.println(String.join("\n", calls));
        }
    }

    private static final String[] NAMES = {"person", "thing", "lie", "tells", "of", "row", "feed", "evening",
        "told", "doubt", "round", "guess", "hands", "order", "likely", "best", "first", "line", "worth", "see",
        "lies", "ends", "odds", "mean", "book", "looked", "judge", "image", "undo", "act", "trace", "taken",
        "count", "tape", "item", "read", "shift"};
    // From each call's first number on: the numbers that are mostly drawn lie below these.
    private static final int[][] BELOW = {{7, 10}, {6, 3, 2, 100}, {6, 3}, {6, 3, 3}, {6, 33}, {6, 4, 3}, {128},
        {}, {2}, {6, 6, 3}, {6}, {6, 6}, {6, 4}, {6, 4}, {6, 2}, {6, 2}, {6, 6, 3}, {6, 4}, {6}, {3, 6},
        {6}, {6, 31, 2}, {6, 2}, {2}, {6, 6, 3}, {}, {6, 6}, {}, {}, {6, 3, 100}, {14}, {6, 7},
        {5}, {6, 5, 12}, {6, 12, 7}, {6, 12}, {6, 8, 6, 8, 6}};
    private static final int[] EXTREMES = {Integer.MIN_VALUE, Integer.MIN_VALUE + 1, Integer.MAX_VALUE,
        Integer.MAX_VALUE - 1, -1, -2, -3, 999, 127, 128, 1 << 16, 1 << 30};

    private static final Face[] FACES = new Face[NAMES.length];

    private static int number(int below) {
        int how = draw(40);
        if (how == 0) {
            return EXTREMES[draw(EXTREMES.length)];
        }
        if (how == 1) {
            return below;
        }
        return how == 2 ? -1 : draw(below);
    }

    private static Face face(String name) {
        for (int f = 0; f < NAMES.length; f++) {
            if (NAMES[f].equals(name)) {
                return FACES[f];
            }
        }
        throw new IllegalArgumentException(name);
    }

    private static void callAny() throws Exception {
        int f = draw(FACES.length);
        Class<?>[] types = FACES[f].here.getParameterTypes();
        Object[] args = new Object[types.length];
        for (int a = 0; a < args.length; a++) {
            int n = number(BELOW[f][a]);
            if (types[a] == long.class) {
                args[a] = draw(2) == 0 ? (long) n : seed;
            } else {
                args[a] = n;
            }
        }
        call(FACES[f], args);
    }

    // ---- texts

    private static String test() {
        return "" + "gktpln".charAt(draw(6)) + "<=>".charAt(draw(3)) + (draw(8) == 0 ? draw(100) : draw(10));
    }

    private static String factor(int depth) {
        int how = draw(depth > 4 ? 20 : 6);
        if (how == 0) {
            return "!" + factor(depth + 1);
        }
        return how == 1 ? "(" + either(depth + 1) + ")" : test();
    }

    private static String either(int depth) {
        StringBuilder s = new StringBuilder(factor(depth));
        for (int n = draw(3); n > 0; n--) {
            s.append("&|".charAt(draw(2))).append(factor(depth));
        }
        return s.toString();
    }

    private static String clause() {
        if (draw(5) == 0) {
            return "hands " + draw(draw(2) == 0 ? 100 : 20);
        }
        return (draw(2) == 0 ? "odd " : "sure ") + draw(100) + " " + either(0);
    }

    private static String text() {
        StringBuilder s = new StringBuilder(clause());
        for (int n = draw(draw(6) == 0 ? 14 : 4); n > 0; n--) {
            s.append(';').append(clause());
        }
        if (draw(3) == 0) {
            spoil(s);
        }
        return s.toString();
    }

    private static void spoil(StringBuilder s) {
        String signs = "oddsurehands 0123456789;()!&|<=>gktpln\n~";
        int at = draw(s.length());
        switch (draw(4)) {
            case 0:
                s.deleteCharAt(at);
                break;
            case 1:
                s.insert(at, signs.charAt(draw(signs.length())));
                break;
            case 2:
                s.setCharAt(at, signs.charAt(draw(signs.length())));
                break;
            default:
                s.setLength(at);
                break;
        }
    }

    private static void readEvening() throws Exception {
        String s = text();
        for (int i = 0; i < s.length(); i++) {
            call(face("feed"), (int) s.charAt(i));
        }
        call(face("evening"));
    }

    // ---- runs

    private static void runOne() throws Exception {
        here = new TwoTrue();
        there = new Mirror();
        calls.clear();
        for (int n = draw(7); n > 0; n--) {
            call(face("person"), draw(7), draw(10));
            for (int t = 0; t < 3; t++) {
                call(face("thing"), draw(6), t, 0, draw(100));
                call(face("thing"), draw(6), t, 1, draw(10));
            }
            call(face("lie"), draw(6), draw(3));
            call(face("row"), draw(6), draw(4), draw(3));
            call(face("tells"), draw(6), draw(3), draw(3));
        }
        for (int n = draw(3); n > 0; n--) {
            readEvening();
        }
        while (calls.size() < CALLS) {
            if (draw(150) == 0) {
                readEvening();
            } else if (draw(100) == 0) {
                seeWhatIs();
            } else {
                callAny();
            }
        }
    }

    /** Tells by hand what is so, or is nearly so: else nothing looked at would ever be found as told. */
    private static void seeWhatIs() throws Exception {
        int teller = draw(6);
        for (int place = 0; place < 3; place++) {
            int n = there.hands(teller, place);
            call(face("see"), place, draw(9) == 0 ? draw(6) : n);
        }
        call(face("lies"), teller);
        for (int n = draw(4); n > 0; n--) {
            int t = draw(6);
            int p = draw(6);
            call(face("book"), t, p, draw(5) == 0 ? draw(3) : there.guess(p, t));
        }
        call(face("looked"));
        int from = draw(4);
        call(face("tape"), 1, 1, from + 1 + draw(7));
        for (int p = 0; p < 6; p++) {
            call(face("item"), 1, from + p, (long) there.of(p, 2));
        }
        call(face("judge"), 1, from);
    }

    /** Texts alone: the FAULT of each is found anew by the rule of all evenings. */
    private static void runTexts() throws Exception {
        for (int n = 0; n < 3000; n++) {
            here = new TwoTrue();
            there = new Mirror();
            calls.clear();
            for (int e = 0; e < 3; e++) {
                readEvening();
            }
        }
    }

    private static void runToTheLastRound() throws Exception {
        here = new TwoTrue();
        there = new Mirror();
        calls.clear();
        for (int p = 0; p < 5; p++) {
            call(face("person"), 2 + p, p);
            call(face("thing"), p, p % 3, 0, 30 + p);
        }
        for (int part = 0; part < 4; part++) {
            call(face("row"), 4, part, part % 3);
        }
        for (int r = 0; r < 1002; r++) {
            call(face("round"), r % 5);
            call(face("ends"), r % 5, 30 - r % 7, r % 2);
        }
    }

    public static void main(String[] args) throws Exception {
        for (int f = 0; f < NAMES.length; f++) {
            for (Method m : TwoTrue.class.getMethods()) {
                if (m.getName().equals(NAMES[f]) && Modifier.isPublic(m.getModifiers())
                        && m.getDeclaringClass() == TwoTrue.class) {
                    FACES[f] = new Face(m, Mirror.class.getDeclaredMethod(NAMES[f], m.getParameterTypes()));
                }
            }
        }
        for (int n = 0; n < OBJECTS && wrong == 0; n++) {
            runOne();
        }
        if (wrong == 0) {
            runTexts();
        }
        if (wrong == 0) {
            runToTheLastRound();
        }
        System.out.println("MirrorTest: " + asked + " asked, " + wrong + " wrong");
        if (wrong != 0 || asked < (long) OBJECTS * CALLS) {
            System.exit(1);
        }
    }
}
