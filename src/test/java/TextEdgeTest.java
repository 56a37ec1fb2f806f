import java.util.function.IntPredicate;

/** A test for each sentence of "Terms" on THE TEXT, EVENINGS and DOUBT that names a boundary case. */
public final class TextEdgeTest extends Asking {
    private TextEdgeTest() { }

    public static void main(String[] args) {
        hundredBytes();
        oneToTenClauses();
        blanks();
        numbers();
        words();
        parts();
        binding();
        letters();
        signsOfTests();
        values();
        likelyCut();
        withinFour();
        faultAtEachPlace();
        faultAtTheEnd();
        newestHolds();
        doubts();
        handsWithout();
        Check.end("TextEdgeTest");
    }

    private static void fine(String text) {
        due(text, read(new TwoTrue(), text), 0);
    }

    private static void fault(String text, int place) {
        due(text, read(new TwoTrue(), text), -10 - place);
    }

    private static String times(int n, String part, String between) {
        StringBuilder s = new StringBuilder();
        for (int i = 0; i < n; i++) {
            s.append(i == 0 ? "" : between).append(part);
        }
        return s.toString();
    }

    private static void hundredBytes() {
        says("Terms 1, promises 8, 9", "AN EVENING is read from THE TEXT (bytes, 100 at most)");
        String begun = "odd 12 " + times(23, "p<9", "&") + "&";
        due("bytes", begun.length(), 99);
        fault(begun, 99);
        fault(begun + "p", 100);
        fault(begun + "(", 100);
        fault(begun + "x", 99);
        TwoTrue x = with(GUEST, GUEST);
        due("98 bytes", read(x, "odd 12 " + times(23, "p<9", "&")), 0);
        due("its clause holds", x.doubt(0, 1, 2), 61);
        due("99 bytes", read(x, "odd 12 " + times(22, "p<9", "&") + "&p<99"), 1);
        String hundred = "odd 12 " + times(21, "p<9", "&") + "&p<99&p<99";
        due("bytes", hundred.length(), 100);
        due("100 bytes", read(x, hundred), 2);
        due("its clause holds", x.doubt(0, 1, 2), 61);
        x = with(GUEST, GUEST);
        due("100 bytes, of which the last do not hold", read(x, hundred.substring(0, 97) + ">99"), 0);
        due("its clause does not hold", x.doubt(0, 1, 2), 49);
        feed(x, hundred);
        due("a 101st byte", x.feed(';'), -4);
        due("is not read", x.evening(), 1);
    }

    private static int feedAll(TwoTrue x, String text) {
        int last = 0;
        for (int i = 0; i < text.length(); i++) {
            last = x.feed(text.charAt(i));
        }
        return last;
    }

    private static void oneToTenClauses() {
        says("Terms 1, promise 9", "CLAUSES, 1 to 10, with ; between");
        fault("", 0);
        for (int n = 1; n <= 10; n++) {
            fine(times(n, "hands 1", ";"));
            fault(times(n, "hands 1", ";") + ";", n == 10 ? 79 : 8 * n);
            TwoTrue x = with(GUEST, GUEST);
            due("odd ones", read(x, times(n, "odd 3 p<9", ";")), 0);
            due("DOUBT by " + n + " odd ones", x.doubt(0, 1, 0), 49 + 3 * n);
        }
        fault(times(11, "hands 1", ";"), 79);
        fault(times(12, "hands 1", ";"), 79);
        fault(times(10, "odd 3 p<9", ";") + ";", 99);
        fault(times(10, "hands 1", ";") + "x", 79);
        fault(times(10, "hands 1", ";") + "1;", 80);
        fault(";", 0);
        fault(";hands 1", 0);
        fault("hands 1;;hands 1", 8);
        fault("hands 1,hands 1", 7);
        fault("hands 1 ;hands 1", 7);
        fault("hands 1; hands 1", 8);
        fault("hands 1hands 1", 7);
    }

    private static void blanks() {
        says("Terms 1, promise 9", "odd n E; sure n E; hands n (one blank ahead of each part behind the word;");
        fine("odd 1 g=1");
        fine("sure 1 g=1");
        fine("hands 1");
        for (String blank : new String[] {"", "  ", "\t", "\0", "_", "!", "\n"}) {
            int at = blank.equals("  ") ? 1 : 0;
            fault("odd" + blank + "1 g=1", 3 + at);
            fault("odd 1" + blank + "g=1", 5 + at);
            fault("sure" + blank + "1 g=1", 4 + at);
            fault("sure 1" + blank + "g=1", 6 + at);
            fault("hands" + blank + "1", 5 + at);
        }
        fault(" odd 1 g=1", 0);
        fault("odd 1 g=1 ", 9);
        fault("odd 1 g =1", 7);
        fault("odd 1 g= 1", 8);
        fault("odd 1 g=1 &g=1", 9);
        fault("odd 1 g=1& g=1", 10);
        fault("odd 1 ! g=1", 7);
        fault("odd 1 ( g=1)", 7);
        fault("odd 1 (g=1 )", 10);
        fault("hands 1 ", 7);
    }

    private static void numbers() {
        says("Terms 1, promise 9", "n 1 or 2 digits)");
        for (String word : new String[] {"odd ", "sure "}) {
            int at = word.length();
            fault(word, at);
            fault(word + " p<9", at);
            fault(word + "p<9", at);
            fault(word + "000 p<9", at + 2);
            fault(word + "100 p<9", at + 2);
            fault(word + "-1 p<9", at);
            for (int n = 0; n < 100; n++) {
                TwoTrue x = with(GUEST, GUEST);
                due("n " + n, read(x, word + n + " p<9"), 0);
                due(word + n, x.doubt(0, 1, 0), at == 4 ? 49 + n : 49 - n);
            }
            for (int n = 0; n < 10; n++) {
                TwoTrue x = with(GUEST, GUEST);
                due("n 0" + n, read(x, word + "0" + n + " p<9"), 0);
                due(word + "0" + n, x.doubt(0, 1, 0), at == 4 ? 49 + n : 49 - n);
            }
        }
        fault("hands ", 6);
        fault("hands ;", 6);
        fault("hands 000", 8);
        fault("hands 100", 8);
        for (int n = 0; n < 100; n++) {
            TwoTrue x = new TwoTrue();
            due("hands " + n, read(x, "hands " + n), 0);
            due("hands " + n, x.told(1), n);
        }
        for (int n = 0; n < 10; n++) {
            TwoTrue x = new TwoTrue();
            due("hands 0" + n, read(x, "hands 0" + n), 0);
            due("hands 0" + n, x.told(1), n);
        }
    }

    private static void words() {
        says("Terms 1, promise 9", "odd n E; sure n E; hands n");
        for (String word : new String[] {"odd ", "sure ", "hands "}) {
            for (int n = 0; n < word.length(); n++) {
                String begun = word.substring(0, n);
                fault(begun, n);
                char next = word.charAt(n);
                boolean isFirst = n == 0;
                eachSign(begun, n, sign -> sign == next || isFirst && beginsClause(sign));
            }
        }
        eachSign("hands 1;", 8, TextEdgeTest::beginsClause);
    }

    private static boolean beginsClause(int sign) {
        return sign == 'o' || sign == 's' || sign == 'h';
    }

    /** Each of all 128 signs behind what is begun: either some EVENING goes on so, and it ends too early, or not. */
    private static void eachSign(String begun, int at, IntPredicate goesOn) {
        for (int sign = 0; sign < 128; sign++) {
            fault(begun + (char) sign, goesOn.test(sign) ? at + 1 : at);
        }
    }

    private static boolean isDigit(int sign) {
        return sign >= '0' && sign <= '9';
    }

    private static boolean isLetter(int sign) {
        return sign == 'g' || sign == 'k' || sign == 't' || sign == 'p' || sign == 'l' || sign == 'n';
    }

    private static void parts() {
        says("Terms 1, promises 9, 11", "E: T or T|E. T: F or F&T. F: !F, (E), or a TEST");
        fine("odd 1 g=1|g=1&g=1|g=1");
        fine("odd 1 !g=1");
        fine("odd 1 (g=1)");
        fine("odd 1 !(!g=1)|(g=1)&!!g=1");
        fine("odd 1 (g=1|g=1)&(g=1&g=1|g=1)");
        eachSign("odd 1 ", 6, sign -> isLetter(sign) || sign == '!' || sign == '(');
        eachSign("odd 1 !", 7, sign -> isLetter(sign) || sign == '!' || sign == '(');
        eachSign("odd 1 (", 7, sign -> isLetter(sign) || sign == '!' || sign == '(');
        eachSign("odd 1 g=1|", 10, sign -> isLetter(sign) || sign == '!' || sign == '(');
        eachSign("odd 1 g=1&", 10, sign -> isLetter(sign) || sign == '!' || sign == '(');
        eachSign("odd 1 ((g=11", 12, sign -> sign == '|' || sign == '&' || sign == ')');
        eachSign("odd 1 (g=11)", 12, sign -> sign == '|' || sign == '&' || sign == ';');
        eachSign("odd 1 !g=11", 11, sign -> sign == '|' || sign == '&' || sign == ';');
        eachSign("odd 1 !(g=1)", 12, sign -> sign == '|' || sign == '&' || sign == ';');
        fault("odd 1 (g=1", 10);
        fault("odd 1 (g=1)|", 12);
        fault("odd 1 ((g=1)", 12);
        fault("odd 1 ((g=1);", 12);
        fault("odd 1 (g=1;g=1)", 10);
        fault("odd 1 g=1)", 9);
        fault("odd 1 (g=1))", 11);
    }

    /** Whether E holds of 1 who guesses: a test is "g=1" where the sign's bit is set, else "g=2". */
    private static boolean holds(String form, int bits) {
        StringBuilder e = new StringBuilder("odd 20 ");
        for (char sign : form.toCharArray()) {
            if (sign >= 'a' && sign <= 'd') {
                e.append((bits >> sign - 'a' & 1) == 1 ? "g=1" : "g=2");
            } else {
                e.append(sign);
            }
        }
        TwoTrue x = with(GUEST, GUEST, GUEST);
        due(e.toString(), read(x, e.toString()), 0);
        return x.doubt(1, 0, 0) == 69;
    }

    private static void binding() {
        says("Terms 1, promises 9, 11", "E: T or T|E. T: F or F&T. F: !F, (E)");
        for (int bits = 0; bits < 16; bits++) {
            boolean a = (bits & 1) == 1;
            boolean b = (bits & 2) == 2;
            boolean c = (bits & 4) == 4;
            boolean d = (bits & 8) == 8;
            String with = " with " + bits;
            Check.holds("a" + with, holds("a", bits) == a);
            Check.holds("!a" + with, holds("!a", bits) == !a);
            Check.holds("!!a" + with, holds("!!a", bits) == a);
            Check.holds("!!!!a" + with, holds("!!!!a", bits) == a);
            Check.holds("((((a))))" + with, holds("((((a))))", bits) == a);
            Check.holds("a|b|c|d" + with, holds("a|b|c|d", bits) == (a || b || c || d));
            Check.holds("a&b&c&d" + with, holds("a&b&c&d", bits) == (a && b && c && d));
            Check.holds("a|b&c|d" + with, holds("a|b&c|d", bits) == (a || b && c || d));
            Check.holds("a&b|c&d" + with, holds("a&b|c&d", bits) == (a && b || c && d));
            Check.holds("a|b&c&d" + with, holds("a|b&c&d", bits) == (a || b && c && d));
            Check.holds("(a|b)&(c|d)" + with, holds("(a|b)&(c|d)", bits) == ((a || b) && (c || d)));
            Check.holds("!a&b|c" + with, holds("!a&b|c", bits) == (!a && b || c));
            Check.holds("!a|b" + with, holds("!a|b", bits) == (!a || b));
            Check.holds("!(a|b)&c" + with, holds("!(a|b)&c", bits) == (!(a || b) && c));
            Check.holds("a&!(b&!(c|d))" + with, holds("a&!(b&!(c|d))", bits) == (a && !(b && !(c || d))));
            Check.holds("(a&(b|(c&(d))))" + with, holds("(a&(b|(c&(d))))", bits) == (a && (b || c && d)));
        }
    }

    private static void letters() {
        says("Terms 1, promise 9", "a TEST: a letter, < or = or >, a number (1 or 2 digits)");
        for (char letter : "gktpln".toCharArray()) {
            fine("odd 1 " + letter + "=1");
            fine("odd 1 " + letter + "<0");
            fine("odd 1 " + letter + ">99");
            fault("odd 1 " + letter, 7);
        }
        for (char letter : "GKTPLNaijmqsv01_".toCharArray()) {
            fault("odd 1 " + letter + "=1", 6);
        }
    }

    private static void signsOfTests() {
        says("Terms 1, promise 9", "a letter, < or = or >, a number (1 or 2 digits)");
        eachSign("odd 1 k", 7, sign -> sign == '<' || sign == '=' || sign == '>');
        for (char op : "<=>".toCharArray()) {
            for (int sign = 0; sign < 128; sign++) {
                String one = "odd 1 k" + op + (char) sign;
                String two = "odd 1 k" + op + "4" + (char) sign;
                String three = "odd 1 k" + op + "44" + (char) sign;
                boolean goesOn = sign == '&' || sign == '|' || sign == ';';
                due(one, read(new TwoTrue(), one), isDigit(sign) ? 0 : -18);
                due(two, read(new TwoTrue(), two), isDigit(sign) ? 0 : goesOn ? -20 : -19);
                due(three, read(new TwoTrue(), three), goesOn ? -21 : -20);
            }
        }
        fault("odd 1 k<=1", 8);
        fault("odd 1 k=<1", 8);
        fault("odd 1 k==1", 8);
        fault("odd 1 1=k", 6);
        fault("odd 1 k=g", 8);
    }

    /** Whether E holds of one: 6 PEOPLE, g of KIND k guesses, t tells at PLACE p what is so LIKELY and so LONG. */
    private static boolean holds(String e, int[] gktpln) {
        int g = gktpln[0];
        int t = gktpln[2];
        int p = gktpln[3];
        TwoTrue x = new TwoTrue();
        for (int i = 0; i < 6; i++) {
            x.person(i == g ? gktpln[1] : GUEST, 0);
        }
        x.tells(t, 2, 0);
        int thing = (p + 2) % 3;
        x.thing(t, thing, 0, gktpln[4]);
        x.thing(t, thing, 1, gktpln[5]);
        due(e, read(x, "odd 20 " + e), 0);
        return x.doubt(g, t, p) == 119 - gktpln[4];
    }

    private static void values() {
        says("Terms 1, promise 11",
                "of one who guesses and a THING told g the number of the one, k its KIND, t who tells, "
                + "p the PLACE of the THING, l LIKELY by 10 (cut), n LONG.");
        String letters = "gktpln";
        int[] most = {5, 6, 5, 2, 9, 9};
        for (int i = 0; i < 6; i++) {
            for (int v = 0; v <= most[i]; v++) {
                // What is not asked for is as unlike it as may be.
                int[] all = {1, 2, 3, 0, 70, 8};
                all[i] = i == 4 ? 10 * v + 9 : v;
                if (all[0] == all[2]) {
                    all[i == 0 ? 2 : 0] = 4;
                }
                char letter = letters.charAt(i);
                for (int n : new int[] {0, v - 1, v, v + 1, 9, 10, 99}) {
                    if (n >= 0) {
                        Check.holds(letter + "<" + n + " of " + v, holds(letter + "<" + n, all) == v < n);
                        Check.holds(letter + "=" + n + " of " + v, holds(letter + "=" + n, all) == (v == n));
                        Check.holds(letter + ">" + n + " of " + v, holds(letter + ">" + n, all) == v > n);
                    }
                }
                Check.holds(letter + "=0" + v, holds(letter + "=0" + v, all));
            }
        }
    }

    private static void likelyCut() {
        says("Terms 1, promise 11", "l LIKELY by 10 (cut)");
        int[][] rows = {{0, 0}, {1, 0}, {9, 0}, {10, 1}, {11, 1}, {19, 1}, {20, 2}, {89, 8}, {90, 9}, {99, 9}};
        for (int[] row : rows) {
            for (int l = 0; l < 11; l++) {
                boolean is = holds("l=" + l, new int[] {1, 0, 2, 1, row[0], 5});
                Check.holds("l=" + l + " of " + row[0], is == (l == row[1]));
            }
        }
    }

    private static void withinFour() {
        says("Terms 1, promise 9", "A ( or ! within 4 others is none.");
        for (int depth = 0; depth <= 5; depth++) {
            for (int bits = 0; bits < 1 << depth; bits++) {
                StringBuilder open = new StringBuilder("odd 1 ");
                StringBuilder shut = new StringBuilder();
                for (int i = 0; i < depth; i++) {
                    open.append((bits >> i & 1) == 1 ? '(' : '!');
                    shut.append((bits >> i & 1) == 1 ? ")" : "");
                }
                if (depth < 5) {
                    fine(open + "g=1" + shut);
                    fine(open + "g=1" + shut + "&" + open.substring(6) + "g=1" + shut);
                } else {
                    fault(open + "g=1" + shut, 10);
                    fault(open.toString(), 10);
                }
            }
        }
        // What is closed holds nothing within it any more; a ! ends with its F.
        fine("odd 1 ((((g=1)|(g=1))&(g=1)|!g=1)|!!g=1)|!!!!g=1");
        fault("odd 1 ((((g=1)|((g=1)))))", 16);
        fault("odd 1 ((((g=1|!g=1))))", 14);
        fault("odd 1 !!!!g=1&!!!!!g=1", 18);
        fault("odd 1 (!(!(g=1)))", 10);
        fine("odd 1 (!(!g=1|g=1)&!(!g=1))");
        fault("odd 1 g=1;odd 1 (((((g=1)))))", 20);
    }

    // Its parts end behind the bytes 17 (a bracket), 21 (a number), 32, 40 and 41.
    private static final String LONG = "odd 12 !(g=1|k<2)&t>3;sure 4 p=0;hands 56";

    private static void faultAtEachPlace() {
        says("Terms 1, promise 9", "The FAULT: the place of the first byte with which none begins so");
        fine(LONG);
        for (int at = 0; at < LONG.length(); at++) {
            for (char wrong : new char[] {'~', 0, 127, ':', '/', ','}) {
                fault(LONG.substring(0, at) + wrong + LONG.substring(at + 1), at);
                fault(LONG.substring(0, at) + wrong, at);
            }
        }
        fault(LONG + "~", 41);
        fault("~" + LONG, 0);
        fault("~~", 0);
        // Only the first counts.
        fault("odd 1 g=x;odd y", 8);
    }

    private static void faultAtTheEnd() {
        says("Terms 1, promise 9", "(the end of THE TEXT, if it ends too early)");
        for (int n = 0; n <= LONG.length(); n++) {
            String begun = LONG.substring(0, n);
            if (n == 17 || n == 21 || n == 32 || n == 40 || n == 41) {
                fine(begun);
            } else {
                fault(begun, n);
            }
        }
    }

    private static void newestHolds() {
        says("Terms 1, promises 9, 11", "The newest EVENING holds (6 at most); without one there are no CLAUSES.");
        TwoTrue x = with(GUEST, GUEST);
        due("without one", x.doubt(0, 1, 0), 49);
        due("without one", x.told(1), 10);
        due("no text is none", x.evening(), -10);
        due("still without one", x.doubt(0, 1, 0), 49);
        for (int e = 0; e < 6; e++) {
            due("evening", read(x, "odd " + (e + 1) + " p=0;hands " + (20 + e)), e);
            due("it holds, and it alone", x.doubt(0, 1, 0), 50 + e);
            due("its hands", x.told(1), 20 + e);
        }
        due("a seventh", read(x, "odd 9 p=0;hands 29"), -4);
        due("the sixth holds", x.doubt(0, 1, 0), 55);
        due("its hands", x.told(1), 25);
        due("six", x.count(1), 6);
    }

    private static void doubts() {
        says("Terms 1, promise 11",
                "DOUBT of one about a THING told: 99 less LIKELY, and the n of all odd whose E holds, "
                + "less those of all sure, together.");
        TwoTrue x = with(GUEST, GUEST);
        likely(x, 1, 0, 99, 1);
        due("LIKELY 0", x.doubt(0, 1, 0), 99);
        due("LIKELY 99", x.doubt(0, 1, 1), 0);
        due("LIKELY 1", x.doubt(0, 1, 2), 98);
        read(x, "odd 0 p<9;sure 00 p<9");
        due("n 0", x.doubt(0, 1, 1), 0);
        read(x, "sure 1 p<9");
        due("below 0", x.doubt(0, 1, 1), -1);
        read(x, times(9, "odd 99 p<9", ";"));
        due("the most", x.doubt(0, 1, 0), 99 + 891);
        read(x, times(8, "sure 99 p<9", ";"));
        due("the least", x.doubt(0, 1, 1), -792);
        read(x, "odd 5 p=0;odd 7 p=1;sure 3 p=2;sure 1 p<2;odd 20 p>2");
        due("of those that hold alone", x.doubt(0, 1, 0), 103);
        due("of those that hold alone", x.doubt(0, 1, 1), 6);
        due("of those that hold alone", x.doubt(0, 1, 2), 95);
        x = with(GUEST, GUEST);
        read(x, "odd 30 p=0;odd 30 p=0;sure 7 p=0;odd 1 p=0;sure 7 p=0");
        due("alike ones count each", x.doubt(0, 1, 0), 96);
    }

    private static void handsWithout() {
        says("Terms 1, promise 10", "hands (10 without): the last one's n.");
        TwoTrue x = new TwoTrue();
        due("without an evening", x.told(1), 10);
        read(x, "odd 1 g=1");
        due("without such a clause", x.told(1), 10);
        read(x, "hands 0");
        due("hands 0", x.told(1), 0);
        read(x, "hands 99;odd 1 g=1;hands 3;sure 77 g=1");
        due("the last one's", x.told(1), 3);
        read(x, "hands 9;hands 99");
        due("the last one's", x.told(1), 99);
        read(x, "sure 1 g=1");
        due("without again", x.told(1), 10);
        x = new TwoTrue();
        due("ten", read(x, "hands 1;hands 2;hands 3;hands 4;hands 5;hands 6;hands 7;hands 8;hands 9;hands 11"), 0);
        due("the tenth's", x.told(1), 11);
    }
}
