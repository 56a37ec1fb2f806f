/** Counts what is not as due; a test's main ends by end(). */
final class Check {
    private static int asked = 0;
    private static int wrong = 0;
    private static String group = "";

    private Check() { }

    static void group(String name) {
        group = name;
    }

    static void due(String call, long got, long want) {
        asked++;
        if (got != want) {
            wrong++;
            System.out.println(group + ": " + call + " answered " + got + ", due is " + want);
        }
    }

    static void holds(String what, boolean is) {
        asked++;
        if (!is) {
            wrong++;
            System.out.println(group + ": " + what + " does not hold");
        }
    }

    static void end(String name) {
        System.out.println(name + ": " + asked + " asked, " + wrong + " wrong");
        if (wrong != 0 || asked == 0) {
            System.exit(1);
        }
    }
}
