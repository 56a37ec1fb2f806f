/** For each promise of the document: ordinary calls, the edges it names, wrong numbers. Reckoned by hand. */
public final class PromiseTest extends Asking {
    private PromiseTest() { }

    public static void main(String[] args) {
        newObject();
        person();
        thing();
        lie();
        tells();
        of();
        row();
        feed();
        evening();
        behindAFault();
        faults();
        nesting();
        told();
        doubt();
        doubtOfTexts();
        likelyByTen();
        round();
        guess();
        kindsGuess();
        hands();
        order();
        likely();
        best();
        first();
        line();
        lines();
        worth();
        see();
        lies();
        ends();
        odds();
        mean();
        book();
        looked();
        judge();
        image();
        undo();
        act();
        trace();
        taken();
        count();
        tape();
        item();
        read();
        shift();
        Check.end("PromiseTest");
    }

    private static void newObject() {
        Check.group("promise 1");
        TwoTrue x = new TwoTrue();
        for (int what = 0; what < 5; what++) {
            due("count(" + what + ")", x.count(what), 0);
        }
        due("told(0)", x.told(0), 0);
        due("told(1)", x.told(1), 10);
        due("of(0, 0)", x.of(0, 0), -1);
        due("mean(0)", x.mean(0), TwoTrue.NO);
        due("trace(0)", x.trace(0), -1);
        due("undo()", x.undo(), -3);
        for (int t = 0; t < 6; t++) {
            due("item(t, 0, 0)", x.item(t, 0, 0), -11);
        }
        for (int p = 0; p < 3; p++) {
            due("see(p, 0)", x.see(p, 0), 0);
        }
        due("NONE", TwoTrue.NONE, -1);
        due("BAD", TwoTrue.BAD, -2);
        due("STATE", TwoTrue.STATE, -3);
        due("FULL", TwoTrue.FULL, -4);
        due("NO", TwoTrue.NO, Long.MIN_VALUE);
        TwoTrue other = new TwoTrue();
        x.person(0, 0);
        due("of another object", other.count(0), 0);
    }

    private static void person() {
        Check.group("promise 2");
        TwoTrue x = new TwoTrue();
        due("kind -1", x.person(-1, 0), -1);
        due("kind 7", x.person(7, 0), -1);
        due("kind 7, v 10", x.person(7, 10), -1);
        due("v -1", x.person(0, -1), -2);
        due("v 10", x.person(0, 10), -2);
        due("v MIN", x.person(6, MIN), -2);
        due("nobody came", x.count(0), 0);
        for (int p = 0; p < 6; p++) {
            due("person " + p, x.person(p + 1, 9 - p), p);
        }
        due("kind ahead of FULL", x.person(7, 0), -1);
        due("v ahead of FULL", x.person(0, 10), -2);
        due("FULL", x.person(0, 0), -4);
        due("six", x.count(0), 6);
        due("kind of 5", x.of(5, 0), 6);
        due("v of 5", x.of(5, 1), 4);
        due("points of 5", x.of(5, 2), 0);
        due("lie of 5", x.of(5, 3), 0);
        for (int p = 0; p < 3; p++) {
            due("order of 5", x.of(5, 10 + p), p);
            due("likely of 5", x.of(5, 20 + p), 50);
            due("long of 5", x.of(5, 30 + p), 5);
        }
    }

    private static void thing() {
        Check.group("promise 3");
        TwoTrue x = with(GUEST);
        due("likely", x.thing(0, 1, 0, 99), 50);
        due("likely again", x.thing(0, 1, 0, 0), 99);
        due("long", x.thing(0, 1, 1, 9), 5);
        due("long again", x.thing(0, 1, 1, 0), 9);
        due("likely is", x.of(0, 21), 0);
        due("long is", x.of(0, 31), 0);
        due("the thing ahead", x.of(0, 20), 50);
        due("the thing behind", x.of(0, 32), 5);
        due("no such one", x.thing(1, 0, 0, 0), -1);
        due("person -1", x.thing(-1, 0, 0, 0), -1);
        due("thing 3", x.thing(0, 3, 0, 0), -1);
        due("thing -1", x.thing(0, -1, 0, 0), -1);
        due("what 2", x.thing(0, 0, 2, 0), -1);
        due("what -1", x.thing(0, 0, -1, 0), -1);
        due("NONE ahead of BAD", x.thing(0, 3, 0, 100), -1);
        due("likely 100", x.thing(0, 0, 0, 100), -2);
        due("likely -1", x.thing(0, 0, 0, -1), -2);
        due("long 10", x.thing(0, 0, 1, 10), -2);
        due("long -1", x.thing(0, 0, 1, -1), -2);
        due("nothing changed", x.of(0, 20), 50);
        due("nothing changed", x.of(0, 30), 5);
    }

    private static void lie() {
        Check.group("promise 4");
        TwoTrue x = with(GUEST, GUEST);
        due("first", x.lie(1, 2), 0);
        due("again", x.lie(1, 1), 2);
        due("is", x.of(1, 3), 1);
        due("of the other", x.of(0, 3), 0);
        due("no such one", x.lie(2, 0), -1);
        due("person -1", x.lie(-1, 0), -1);
        due("thing 3", x.lie(0, 3), -1);
        due("thing -1", x.lie(0, -1), -1);
        due("still", x.of(0, 3), 0);
    }

    private static void tells() {
        Check.group("promise 5");
        int[][] rows = {{0, 1, 2}, {0, 2, 1}, {1, 0, 2}, {1, 2, 0}, {2, 0, 1}, {2, 1, 0}};
        TwoTrue x = with(GUEST, GUEST);
        for (int[] row : rows) {
            due("tells", x.tells(1, row[0], row[1]), 1);
            for (int p = 0; p < 3; p++) {
                due("told at " + p, x.of(1, 10 + p), row[p]);
                due("of the other", x.of(0, 10 + p), p);
            }
        }
        due("no such one", x.tells(2, 0, 1), -1);
        due("person -1", x.tells(-1, 0, 1), -1);
        due("first 3", x.tells(0, 3, 1), -1);
        due("first -1", x.tells(0, -1, 1), -1);
        due("second 3", x.tells(0, 0, 3), -1);
        due("second -1", x.tells(0, 0, -1), -1);
        due("3 twice", x.tells(0, 3, 3), -1);
        due("one twice", x.tells(0, 1, 1), -2);
        due("still", x.of(1, 10), 2);
    }

    private static void of() {
        Check.group("promise 6");
        TwoTrue x = new TwoTrue();
        x.person(SHARP, 7);
        x.person(GUEST, 3);
        x.lie(0, 2);
        x.tells(0, 2, 0);
        likely(x, 0, 11, 22, 33);
        lengths(x, 0, 1, 2, 3);
        x.round(0);
        // 1 guesses thing 0 at place 1, the lie is at place 0: 0 has a point.
        int[] whats = {0, 1, 2, 3, 10, 11, 12, 20, 21, 22, 30, 31, 32};
        int[] dues = {4, 7, 1, 2, 2, 0, 1, 11, 22, 33, 1, 2, 3};
        for (int i = 0; i < whats.length; i++) {
            due("of(0, " + whats[i] + ")", x.of(0, whats[i]), dues[i]);
        }
        for (int what : new int[] {-1, 4, 9, 13, 19, 23, 29, 33, 40, MIN, MAX, MIN + 9}) {
            due("of(0, " + what + ")", x.of(0, what), -1);
        }
        due("of(2, 0)", x.of(2, 0), -1);
        due("of(-1, 0)", x.of(-1, 0), -1);
        due("of(MIN, 0)", x.of(MIN, 0), -1);
    }

    private static void row() {
        Check.group("promise 7");
        TwoTrue x = with(TOLD, FRIEND, GUEST);
        due("at first", x.row(0, 3, 2), 0);
        due("what it was", x.row(0, 3, 1), 2);
        due("another part", x.row(0, 0, 2), 0);
        due("what it was", x.row(0, 3, 0), 1);
        due("no such one", x.row(3, 0, 0), -1);
        due("person -1", x.row(-1, 0, 0), -1);
        due("part 4", x.row(0, 4, 0), -1);
        due("part -1", x.row(0, -1, 0), -1);
        due("n 3", x.row(0, 0, 3), -2);
        due("n -1", x.row(0, 0, -1), -2);
        due("a friend", x.row(1, 0, 0), -3);
        due("n ahead of the kind", x.row(1, 0, 3), -2);
        due("part ahead of the kind", x.row(1, 4, 0), -1);
        due("part ahead of n", x.row(0, 4, 3), -1);
        due("still", x.row(0, 0, 0), 2);
        // Rounds 0 .. 7: a told one guesses its row, all things being alike.
        x = with(GUEST, TOLD);
        x.lie(0, 2);
        int[] row = {2, 0, 2, 1};
        for (int part = 0; part < 4; part++) {
            x.row(1, part, row[part]);
        }
        for (int r = 0; r < 8; r++) {
            due("guess in round " + r, x.guess(1, 0), row[r % 4]);
            x.round(0);
        }
    }

    private static void feed() {
        Check.group("promise 8");
        TwoTrue x = new TwoTrue();
        due("sign 128", x.feed(128), -2);
        due("sign -1", x.feed(-1), -2);
        due("empty yet", x.count(3), 0);
        for (int i = 1; i <= 100; i++) {
            due("feed", x.feed(i == 1 ? 0 : i == 2 ? 127 : 'h'), i);
        }
        due("FULL", x.feed('h'), -4);
        due("BAD ahead of FULL", x.feed(128), -2);
        due("100 bytes", x.count(3), 100);
        due("sign 0 is none", x.evening(), -10);
        due("empty then", x.count(3), 0);
        due("one again", x.feed('h'), 1);
    }

    private static void evening() {
        Check.group("promise 9");
        TwoTrue x = new TwoTrue();
        due("no text", x.evening(), -10);
        for (int e = 0; e < 6; e++) {
            due("evening " + e, read(x, "hands " + e), e);
            due("holds", x.told(1), e);
            due("text is empty", x.count(3), 0);
            due("evenings", x.count(1), e + 1);
            if (e < 5) {
                due("a fault", read(x, "hands x"), -16);
                due("the one that held holds", x.told(1), e);
                due("text is empty", x.count(3), 0);
            }
        }
        due("FULL", read(x, "hands 77"), -4);
        due("the text stays", x.count(3), 8);
        due("the one that held holds", x.told(1), 5);
        due("FULL ahead of a fault", read(x, "x"), -4);
        due("the text stays", x.count(3), 9);
        due("six", x.count(1), 6);
        // The newest one has its own clauses alone.
        x = with(GUEST, GUEST);
        read(x, "odd 30 p=0;hands 40");
        due("doubt", x.doubt(0, 1, 0), 79);
        read(x, "odd 7 p=1");
        due("doubt", x.doubt(0, 1, 0), 49);
        due("doubt", x.doubt(0, 1, 1), 56);
        due("hands", x.told(1), 10);
    }

    private static void behindAFault() {
        Check.group("promise 9, behind a fault");
        TwoTrue x = with(GUEST, GUEST);
        due("a fault behind clauses", read(x, "hands 5;odd 9 p=0;"), -28);
        due("nothing of it holds", x.told(1), 10);
        due("nothing of it holds", x.doubt(0, 1, 0), 49);
        due("the next text", read(x, "odd 3 p=0"), 0);
        due("has nothing of it", x.told(1), 10);
        due("has nothing of it", x.doubt(0, 1, 0), 52);
    }

    private static void faults() {
        Check.group("promise 9, faults");
        Object[][] texts = {
            {"h", 1}, {"hand", 4}, {"hands", 5}, {"hands ", 6}, {"hands  1", 6}, {"hands 123", 8},
            {"hands 12 ", 8}, {"hands 1 2", 7}, {"hands 1;", 8}, {"hands 1;;", 8}, {"hands 1; odd", 8},
            {"x", 0}, {" ", 0}, {";", 0}, {"Odd 1 g=1", 0}, {"odd", 3}, {"odd1 g=1", 3}, {"odd x", 4},
            {"odd 1", 5}, {"odd 1 ", 6}, {"odd 1;", 5}, {"odd 1  g=1", 6}, {"odd 123 g=1", 6}, {"odd -1 g=1", 4},
            {"odd 1 g", 7}, {"odd 1 g=", 8}, {"odd 1 g!1", 7}, {"odd 1 g=x", 8}, {"odd 1 g=123", 10},
            {"odd 1 g=1 ", 9}, {"odd 1 g=1&", 10}, {"odd 1 g=1|", 10}, {"odd 1 g=1&&g=1", 10},
            {"odd 1 g=1)", 9}, {"odd 1 (g=1", 10}, {"odd 1 (g=1;", 10}, {"odd 1 ()", 7}, {"odd 1 !", 7},
            {"odd 1 x=1", 6}, {"odd 1 G=1", 6}, {"odd 1 g==1", 8}, {"odd 1 g<=1", 8}, {"odd 1 (g=1))", 11},
            {"odd 1 g=1(", 9}, {"odd 1 g=1!g=1", 9}, {"odd 1 g=1 g=1", 9}, {"odd 1 1=g", 6},
            {"sure", 4}, {"sune 1 g=1", 2}, {"suree 1 g=1", 4}, {"sure 1 g=1;hands", 16},
            {"odd 1 g=1;x", 10}, {"odd 1 g=12;odd 1 g=1x", 20}};
        for (Object[] row : texts) {
            String text = (String) row[0];
            due(text, read(new TwoTrue(), text), -10 - (Integer) row[1]);
        }
        String ten = "hands 1;hands 1;hands 1;hands 1;hands 1;hands 1;hands 1;hands 1;hands 1;hands 2";
        TwoTrue x = new TwoTrue();
        due("ten clauses", read(x, ten), 0);
        due("the last one's n", x.told(1), 2);
        due("an eleventh", read(x, ten + ";hands 3"), -10 - ten.length());
        String longest = "odd 11 n>10|n>11|n>12|n>13|n>14|n>15|n>16|n>17|n>18|n>19|n>20|n>21|n>22|n>23|n>24|"
                + "n>25|n>26|n<90";
        due("its length", longest.length(), 96);
        due("96 bytes", read(x, longest), 1);
        due("100 bytes", read(x, longest + "|n<1"), 2);
        due("100 bytes again", read(x, longest + "&p=1"), 3);
        due("99 bytes that end too early", read(x, longest + "|n<"), -10 - 99);
        due("100 bytes that end too early", read(x, longest + "&!n<"), -10 - 100);
        due("100 bytes, the last a fault", read(x, longest + "|n<("), -10 - 99);
    }

    private static void nesting() {
        Check.group("promise 9, nesting");
        Object[][] texts = {
            {"odd 1 ((((g=1))))", 0}, {"odd 1 !!!!g=1", 0}, {"odd 1 !(!(g=1))", 0}, {"odd 1 (!(!g=1))", 0},
            {"odd 1 (((((g=1)))))", -20}, {"odd 1 !!!!!g=1", -20}, {"odd 1 !(!(!g=1))", -20},
            {"odd 1 ((((g=1&!g=1))))", -24}, {"odd 1 ((((g=1))))&((((g=1))))", 0},
            {"odd 1 !!!!g=1|!!!!g=1", 0}, {"odd 1 ((((g=1)|((g=1)))))", -26}, {"odd 1 ((((g=1)|(g=1))))", 0},
            {"odd 1 (((!g=1&(g=1))))", 0}, {"odd 1 (((!(g=1))))", -20}};
        for (Object[] row : texts) {
            due((String) row[0], read(new TwoTrue(), (String) row[0]), (Integer) row[1]);
        }
    }

    private static void told() {
        Check.group("promise 10");
        TwoTrue x = with(GUEST, GUEST);
        due("round", x.told(0), 0);
        x.round(1);
        due("round", x.told(0), 1);
        due("hands", x.told(1), 10);
        read(x, "hands 7;odd 1 g=1;hands 00");
        due("the last one's n", x.told(1), 0);
        read(x, "odd 1 g=1");
        due("10 without", x.told(1), 10);
        due("told(2)", x.told(2), -1);
        due("told(-1)", x.told(-1), -1);
    }

    private static void doubt() {
        Check.group("promise 11");
        TwoTrue x = with(GUEST, SHEEP, TOLD);
        likely(x, 1, 0, 40, 99);
        x.tells(1, 2, 0);
        due("place 0", x.doubt(0, 1, 0), 0);
        due("place 1", x.doubt(0, 1, 1), 99);
        due("place 2", x.doubt(2, 1, 2), 59);
        due("no such one", x.doubt(3, 1, 0), -1001);
        due("person -1", x.doubt(-1, 1, 0), -1001);
        due("no such teller", x.doubt(0, 3, 0), -1001);
        due("teller -1", x.doubt(0, -1, 0), -1001);
        due("place 3", x.doubt(0, 1, 3), -1001);
        due("place -1", x.doubt(0, 1, -1), -1001);
        due("one of the people", x.doubt(1, 1, 0), -1002);
        due("place ahead of that", x.doubt(1, 1, 3), -1001);
        read(x, "sure 99 p<9;sure 99 p<9;sure 99 p<9;sure 99 p<9;sure 99 p<9;sure 99 p<9");
        due("far below", x.doubt(0, 1, 0), -594);
        read(x, "odd 99 p<9;odd 99 p<9;odd 99 p<9;odd 99 p<9;odd 99 p<9;odd 99 p<9");
        due("far above", x.doubt(0, 1, 1), 693);
    }

    private static void likelyByTen() {
        Check.group("promise 11, likely by 10");
        TwoTrue x = with(GUEST, GUEST);
        for (int likely = 0; likely < 100; likely++) {
            x.thing(0, 1, 0, likely);
            read(x, "odd 1 l=" + likely / 10);
            due("likely " + likely, x.doubt(1, 0, 1), 100 - likely);
            x = with(GUEST, GUEST);
        }
    }

    /** Person 1 (reader) doubts of 2, whose thing 0 (likely 34, long 6) is told third, at place 2. */
    private static void doubtOfTexts() {
        Check.group("promise 11, tests");
        Object[][] texts = {
            {"g=1", 1}, {"g=2", 0}, {"g<2", 1}, {"g>0", 1}, {"g>1", 0}, {"g<1", 0}, {"k=1", 1}, {"k=0", 0},
            {"t=2", 1}, {"t=1", 0}, {"p=2", 1}, {"p=0", 0}, {"l=3", 1}, {"l=34", 0}, {"l>3", 0}, {"l<4", 1},
            {"n=6", 1}, {"n=06", 1}, {"n<6", 0}, {"n<60", 1}, {"n>5", 1}, {"!g=1", 0}, {"!!g=1", 1},
            {"!g=2", 1}, {"g=1&k=0", 0}, {"g=1|k=0", 1}, {"g=2|k=0", 0}, {"g=1&k=1", 1},
            {"g=1|g=2&g=2", 1}, {"g=2&g=2|g=1", 1}, {"(g=1|g=2)&g=2", 0}, {"g=2&(g=2|g=1)", 0},
            {"!g=1|g=1", 1}, {"!(g=1|g=1)", 0}, {"!g=2&g=2", 0}, {"!(g=2&g=2)", 1}, {"g=1&g=1&g=2", 0},
            {"g=1&g=2&g=1", 0}, {"g=2&g=1&g=1", 0}, {"g=2|g=2|g=1", 1}, {"g=2|g=1|g=2", 1},
            {"!((g=2|g=1)&!g=2)", 0}, {"g=2|!(g=2|!(g=1))", 1},
            {"g=1&(g=1)", 1}, {"g=2|(g=2)", 0}, {"g=2|(g=1&(g=2|(g=1&g=1)))", 1}, {"g=1&(g=1|(g=2))", 1}};
        for (Object[] row : texts) {
            int is = (Integer) row[1];
            String e = (String) row[0];
            TwoTrue x = with(GUEST, READER, GUEST);
            x.thing(2, 0, 0, 34);
            x.thing(2, 0, 1, 6);
            x.tells(2, 1, 2);
            read(x, "odd 20 " + e);
            due("odd 20 " + e, x.doubt(1, 2, 2), 65 + 20 * is);
            read(x, "sure 7 " + e + ";odd 3 " + e + ";odd 5 g=9;sure 90 g=9");
            due("sure 7, odd 3 " + e, x.doubt(1, 2, 2), 65 - 4 * is);
        }
    }

    private static void round() {
        Check.group("promise 12");
        TwoTrue x = with(GUEST, GUEST, SHARP, GUEST);
        likely(x, 1, 40, 50, 60);
        // All doubt thing 0 most (59, 49, 39), but for the sharp one: 69, 59, 79 (lengths alike).
        due("taken in", x.round(1), 1);
        due("points of 0", x.of(0, 2), 1);
        due("points of who tells", x.of(1, 2), 1);
        due("points of 2", x.of(2, 2), 0);
        due("points of 3", x.of(3, 2), 1);
        due("round", x.told(0), 1);
        x.lie(1, 1);
        due("all are taken in", x.round(1), 3);
        due("points of who tells", x.of(1, 2), 4);
        due("points of 0", x.of(0, 2), 1);
        x.tells(1, 0, 2);
        due("the lie told third", x.round(1), 2);
        due("points of 2", x.of(2, 2), 1);
        due("no such one", x.round(4), -1);
        due("teller -1", x.round(-1), -1);
        due("round", x.told(0), 3);
        x = with(GUEST);
        for (int r = 0; r < 999; r++) {
            due("alone", x.round(0), 0);
        }
        due("round", x.told(0), 999);
        due("STATE", x.round(0), -3);
        due("NONE ahead of STATE", x.round(1), -1);
        due("round", x.told(0), 999);
    }

    private static void guess() {
        Check.group("promise 13");
        TwoTrue x = with(GUEST, GUEST, FOLLOWER, GUEST);
        likely(x, 0, 60, 40, 50);
        due("the most doubted", x.guess(1, 0), 1);
        x.tells(0, 2, 0);
        due("at its place", x.guess(3, 0), 2);
        likely(x, 0, 50, 50, 50);
        due("of several the first", x.guess(1, 0), 0);
        likely(x, 0, 50, 40, 40);
        due("of several the first", x.guess(1, 0), 0);
        due("round is as it was", x.told(0), 0);
        due("points are", x.of(0, 2), 0);
        due("no such one", x.guess(4, 0), -1);
        due("person -1", x.guess(-1, 0), -1);
        due("no such teller", x.guess(0, 4), -1);
        due("teller -1", x.guess(0, -1), -1);
        due("both none and alike", x.guess(4, 4), -1);
        due("one of the people", x.guess(2, 2), -2);
    }

    private static void kindsGuess() {
        Check.group("promise 13, kinds");
        // READER: twice LONG: 49 + 2, 47 + 8, 46 + 10.
        TwoTrue x = with(GUEST, READER, GUEST);
        likely(x, 0, 50, 52, 53);
        lengths(x, 0, 1, 4, 5);
        due("a reader", x.guess(1, 0), 2);
        due("a guest", x.guess(2, 0), 0);
        lengths(x, 0, 1, 5, 5);
        due("a reader", x.guess(1, 0), 1);
        // 49 to 0 + 2 * 9 + ..: 49 + 10 to 41 + 18, a point less or more.
        lengths(x, 0, 5, 9, 0);
        likely(x, 0, 50, 58, 99);
        due("a reader", x.guess(1, 0), 0);
        likely(x, 0, 50, 57, 99);
        due("a reader", x.guess(1, 0), 1);
        // SHARP: as READER, and 30 for place 2: 79, 59, 49 + 30 = 79: the first; one more: place 2.
        x = with(GUEST, SHARP);
        likely(x, 0, 30, 50, 60);
        due("sharp", x.guess(1, 0), 0);
        likely(x, 0, 31, 50, 60);
        due("sharp", x.guess(1, 0), 2);
        lengths(x, 0, 9, 5, 5);
        due("sharp, reading", x.guess(1, 0), 0);
        // FOLLOWER: 10 for each hand: guests guess 0 (doubt 59), the follower weighs 51 + 10 * hands.
        x = with(GUEST, SHARP, SHARP, FOLLOWER, GUEST);
        likely(x, 0, 40, 50, 60);
        // sharp ones guess 2 (39 + 30 + 10 = 79 to 69): hands 0, 0, 2: the follower: 59, 49, 59.
        due("a follower", x.guess(3, 0), 0);
        read(x, "hands 11");
        due("a follower, hands 11", x.guess(3, 0), 2);
        due("who guesses behind", x.guess(4, 0), 0);
        // By numbers: who guesses ahead of all sees no hands.
        x = with(FOLLOWER, SHARP, SHARP, SHARP, GUEST);
        likely(x, 4, 40, 50, 60);
        due("a follower ahead", x.guess(0, 4), 0);
        // SHEEP: without hands as a guest, with any by hands alone.
        x = with(GUEST, SHEEP, SHEEP);
        likely(x, 0, 90, 10, 90);
        due("a sheep ahead", x.guess(1, 0), 1);
        x = with(GUEST, SHARP, SHEEP, SHEEP);
        likely(x, 0, 40, 50, 60);
        due("a sheep", x.guess(2, 0), 2);
        due("the next sheep", x.guess(3, 0), 2);
        read(x, "hands 0");
        due("a sheep, hands 0", x.guess(2, 0), 0);
        for (int place = 0; place < 3; place++) {
            x = with(GUEST, GUEST, SHEEP);
            x.tells(0, (3 - place) % 3, (4 - place) % 3);
            likely(x, 0, 40, 50, 50);
            due("one hand is up at " + place, x.guess(2, 0), place);
            x = with(GUEST, SHARP, GUEST, SHEEP);
            x.tells(0, (3 - place) % 3, (4 - place) % 3);
            likely(x, 0, 60, 70, 70);
            // Hands: one at 2 of the sharp one, one at the place: of several the first.
            due("hands at 2 and " + place, x.guess(3, 0), place);
        }
        for (int place = 0; place < 3; place++) {
            // The sheep doubts all but that place by 90 more, but sees a hand there.
            x = with(GUEST, GUEST, SHEEP);
            read(x, "odd 90 g=2&!p=" + place + ";odd 9 g=1&p=" + place);
            due("hands alone, at " + place, x.guess(2, 0), place);
        }
        // FRIEND: 5 times v for the place of the lie, if who tells is v modulo how many there are.
        x = new TwoTrue();
        x.person(GUEST, 0);
        x.person(GUEST, 0);
        x.person(FRIEND, 4);
        likely(x, 1, 50, 50, 69);
        x.lie(1, 2);
        due("a friend: 30 + 20 to 49", x.guess(2, 1), 2);
        x.thing(1, 2, 0, 70);
        due("a friend: 29 + 20 to 49", x.guess(2, 1), 0);
        likely(x, 0, 50, 50, 69);
        x.lie(0, 2);
        due("no friend of 0", x.guess(2, 0), 0);
        x.thing(1, 2, 0, 60);
        x.tells(1, 2, 0);
        due("the place of the lie", x.guess(2, 1), 0);
        x.person(GUEST, 0);
        due("4 modulo 4: a friend of 0", x.guess(2, 0), 2);
        due("of 1 no more", x.guess(2, 1), 1);
        // TOLD: as FRIEND, and 40 more for its row's place.
        x = with(GUEST, TOLD);
        x.row(1, 0, 2);
        likely(x, 0, 10, 50, 50);
        due("told: 89 to 89", x.guess(1, 0), 0);
        likely(x, 0, 11, 50, 50);
        due("told: 88 to 89", x.guess(1, 0), 2);
        x = new TwoTrue();
        x.person(GUEST, 0);
        x.person(TOLD, 8);
        x.row(1, 0, 2);
        likely(x, 0, 50, 50, 50);
        x.lie(0, 1);
        due("told, a friend of 0 by 40", x.guess(1, 0), 1);
    }

    private static void hands() {
        Check.group("promise 14");
        TwoTrue x = with(SHARP, GUEST, SHARP, SHARP, GUEST);
        likely(x, 1, 40, 50, 60);
        x.lie(1, 1);
        int[] dues = {1, 0, 3, 4};
        for (int what = 0; what < 4; what++) {
            due("hands(1, " + what + ")", x.hands(1, what), dues[what]);
        }
        x.lie(1, 2);
        due("taken in", x.hands(1, 3), 1);
        due("what 4", x.hands(1, 4), -1);
        due("what -1", x.hands(1, -1), -1);
        due("no such one", x.hands(5, 0), -1);
        due("teller -1", x.hands(-1, 0), -1);
        x = with(GUEST);
        for (int what = 0; what < 4; what++) {
            due("alone", x.hands(0, what), 0);
        }
    }

    private static void order() {
        Check.group("promise 15");
        // Guests guess the lie (thing 0, the most doubted), at any place; the sharp one place 2, unless
        // the lie is there: so the lie is told first or second; of those the first row: 0, 1, 2.
        TwoTrue x = with(GUEST, GUEST, SHARP);
        likely(x, 0, 40, 50, 50);
        int[] dues = {1, 0, 1, 2};
        for (int what = 0; what < 4; what++) {
            due("order(0, " + what + ")", x.order(0, what), dues[what]);
        }
        // Alike likely: who guesses, guesses place 0: so the lie is told later; first such row: 0, 2, 1.
        x = with(GUEST, GUEST);
        x.lie(0, 0);
        int[] later = {1, 1, 0, 2};
        for (int what = 0; what < 4; what++) {
            due("order(0, " + what + ")", x.order(0, what), later[what]);
        }
        x.tells(0, 2, 1);
        due("what holds now is nothing to it", x.order(0, 1), 1);
        due("the order stays", x.of(0, 10), 2);
        x.lie(0, 1);
        due("the first row", x.order(0, 1), 0);
        due("the first row", x.order(0, 2), 1);
        due("what 4", x.order(0, 4), -1);
        due("what -1", x.order(0, -1), -1);
        due("no such one", x.order(2, 0), -1);
        due("teller -1", x.order(-1, 0), -1);
        // Sure, if told third: the first such row takes both in.
        x = with(GUEST, GUEST, GUEST);
        x.lie(0, 0);
        likely(x, 0, 0, 60, 80);
        read(x, "sure 80 p=2&l=0");
        int[] text = {2, 1, 2, 0};
        for (int what = 0; what < 4; what++) {
            due("order(0, " + what + ")", x.order(0, what), text[what]);
        }
        int[][] rows = {{0, 1, 2}, {0, 2, 1}, {1, 0, 2}, {1, 2, 0}, {2, 0, 1}, {2, 1, 0}};
        for (int[] r : rows) {
            // Long of things 0, 1, 2 is 0, 1, 2: the lie is odd, unless they are told by this row.
            x = with(GUEST, GUEST);
            lengths(x, 0, 0, 1, 2);
            likely(x, 0, 99, 99, 99);
            x.lie(0, r[0]);
            read(x, "odd 50 n=" + r[0] + ";sure 30 n=" + r[0] + "&p=0;odd 25 n=" + r[1] + "&p=1");
            due("order by " + r[0] + r[1], x.order(0, 0), 1);
            for (int p = 0; p < 3; p++) {
                due("its thing at " + p, x.order(0, 1 + p), r[p]);
            }
        }
        due("alone", with(GUEST).order(0, 0), 0);
        due("alone", with(GUEST).order(0, 3), 2);
    }

    private static void likely() {
        Check.group("promise 16");
        TwoTrue x = with(GUEST, GUEST, READER);
        x.lie(0, 1);
        likely(x, 0, 50, 0, 60);
        lengths(x, 0, 3, 6, 0);
        // The guest guesses place 0 (49), if the lie's doubt is 49 or less: likely 50 or more: 54.
        // The reader: 55 at place 0 to doubt + 12: likely 56 or more: 63 takes both in.
        due("best", x.likely(0, 0), 63);
        due("how many", x.likely(0, 1), 2);
        due("likely stays", x.of(0, 21), 0);
        x.tells(0, 1, 0);
        due("told first: 99 - l below 49", x.likely(0, 0), 63);
        x.thing(0, 1, 1, 0);
        due("told first: l above 50", x.likely(0, 0), 54);
        due("how many", x.likely(0, 1), 2);
        read(x, "odd 99 l>4;odd 99 l<4&l>0");
        // Things 0 and 2 are odd (148 and 138), so even at likely 0 (99) the lie is not guessed.
        due("the least", x.likely(0, 0), 0);
        due("how many", x.likely(0, 1), 2);
        x = with(GUEST, GUEST);
        likely(x, 0, 0, 98, 98);
        x.thing(0, 1, 0, 98);
        due("by 99 alone", x.likely(0, 0), 99);
        due("how many", x.likely(0, 1), 1);
        due("what 2", x.likely(0, 2), -1);
        due("what -1", x.likely(0, -1), -1);
        due("no such one", x.likely(2, 0), -1);
        due("teller -1", x.likely(-1, 0), -1);
        due("alone: the least", with(GUEST).likely(0, 0), 0);
        due("alone", with(GUEST).likely(0, 1), 0);
    }

    private static void best() {
        Check.group("promise 17");
        TwoTrue x = with(GUEST, GUEST, SHARP);
        likely(x, 0, 40, 50, 60);
        // The guest guesses 0, the sharp one 2: thing 1 takes both in.
        due("best", x.best(0, 0), 1);
        due("how many", x.best(0, 1), 2);
        due("the lie stays", x.of(0, 3), 0);
        x.tells(0, 1, 0);
        due("told at place 0", x.best(0, 0), 1);
        x = with(GUEST, GUEST);
        due("of several the first", x.best(0, 0), 1);
        likely(x, 0, 60, 50, 60);
        due("of several the first", x.best(0, 0), 0);
        due("how many", x.best(0, 1), 1);
        // A friend sees any lie: 45 more.
        x = new TwoTrue();
        x.person(GUEST, 0);
        x.person(FRIEND, 8);
        due("a friend", x.best(0, 1), 0);
        due("a friend", x.best(0, 0), 0);
        likely(x, 0, 50, 91, 50);
        due("a friend by 40", x.best(0, 0), 1);
        due("what 2", x.best(0, 2), -1);
        due("what -1", x.best(0, -1), -1);
        due("no such one", x.best(2, 0), -1);
        due("teller -1", x.best(-1, 0), -1);
    }

    private static void first() {
        Check.group("promise 18");
        TwoTrue x = with(GUEST, GUEST, SHEEP, SHEEP, FOLLOWER);
        likely(x, 0, 40, 45, 50);
        // As ever all guess 0. A hand first at 2, by 3: guest 0, sheep 2 (1, 0, 1) 0: none otherwise.
        due("3 first at 2", x.first(3, 0, 2), 0);
        // By 1: sheep 2 and 3 follow it to 2; the follower: 59 to 49 + 30.
        due("1 first at 2", x.first(1, 0, 2), 3);
        due("1 first at 0", x.first(1, 0, 0), 0);
        // By 4: guest 0, then 1, 0, 1: sheep 0, 0: who was first does not guess again.
        due("4 first at 1", x.first(4, 0, 1), 0);
        x = with(GUEST, FOLLOWER, FOLLOWER, GUEST);
        likely(x, 0, 45, 50, 50);
        // 54 to 49 + 10: follower 1 goes to place 2, 2 with it; the guest does not.
        due("3 first at 2", x.first(3, 0, 2), 2);
        x = with(FOLLOWER, GUEST, GUEST);
        likely(x, 2, 45, 50, 50);
        due("0 follows 1", x.first(1, 2, 1), 1);
        x = with(GUEST, FOLLOWER, FOLLOWER, GUEST);
        due("round stays", x.told(0), 0);
        due("no such one", x.first(4, 0, 0), -1);
        due("person -1", x.first(-1, 0, 0), -1);
        due("no such teller", x.first(0, 4, 0), -1);
        due("teller -1", x.first(0, -1, 0), -1);
        due("place 3", x.first(0, 1, 3), -1);
        due("place -1", x.first(0, 1, -1), -1);
        due("place ahead of BAD", x.first(1, 1, 3), -1);
        due("one of the people", x.first(1, 1, 0), -2);
    }

    private static void line() {
        Check.group("promise 19");
        // Sheep go by hands alone; the sharp one guesses place 2, the lie; so it goes first but for the
        // row's sake: 1 (a sheep) ahead guesses 0 and all sheep with it.
        TwoTrue x = with(GUEST, SHEEP, SHEEP, SHARP);
        likely(x, 0, 40, 50, 60);
        x.lie(0, 2);
        due("fewest", x.line(0, -1), 0);
        int[] row = {3, 1, 2};
        for (int k = 0; k < 3; k++) {
            due("line(0, " + k + ")", x.line(0, k), row[k]);
        }
        due("fewer", x.line(0, 3), -5);
        x.lie(0, 0);
        // Now the sharp one should not lead: 1, 2, 3 is the first row with one taken in.
        due("fewest", x.line(0, -1), 1);
        due("line(0, 0)", x.line(0, 0), 1);
        due("line(0, 1)", x.line(0, 1), 2);
        due("line(0, 2)", x.line(0, 2), 3);
        due("hands as ever", x.hands(0, 3), 1);
        due("k 4", x.line(0, 4), -1);
        due("k -2", x.line(0, -2), -1);
        due("no such one", x.line(4, 0), -1);
        due("teller -1", x.line(-1, 0), -1);
        // Of five: who tells is in the midst; 0 sheep, 1 sheep, 3 sharp, 4 sheep: 3, 0, 1, 4.
        x = with(SHEEP, SHEEP, GUEST, SHARP, SHEEP);
        likely(x, 2, 40, 50, 60);
        x.lie(2, 2);
        int[] five = {3, 0, 1, 4};
        due("fewest", x.line(2, -1), 0);
        for (int k = 0; k < 4; k++) {
            due("line(2, " + k + ")", x.line(2, k), five[k]);
        }
        x.person(GUEST, 0);
        due("six", x.line(2, -1), -9);
        due("six", x.line(2, 3), -9);
        due("six, k 4", x.line(2, 4), -1);
        due("six, no such one", x.line(6, 0), -1);
        x = with(GUEST);
        due("alone", x.line(0, -1), 0);
        due("alone", x.line(0, 0), -5);
        due("alone", x.line(0, 3), -5);
    }

    /** Each row of four in turn is the one by which the fewest are taken in. */
    private static void lines() {
        Check.group("promise 19, rows");
        for (int n = 0; n < 256; n++) {
            int[] row = {n / 64, n / 16 % 4, n / 4 % 4, n % 4};
            boolean once = true;
            for (int a = 0; a < 4; a++) {
                for (int b = 0; b < a; b++) {
                    once &= row[a] != row[b];
                }
            }
            if (!once) {
                continue;
            }
            // Followers all; the first in the row guesses place 1 by itself, each next one by one hand more.
            TwoTrue x = with(FOLLOWER, FOLLOWER, FOLLOWER, FOLLOWER, GUEST);
            likely(x, 4, 50, 50, 50);
            x.lie(4, 1);
            read(x, "odd 5 p=1&g=" + row[0] + ";odd 15 p=0&g=" + row[2] + ";odd 25 p=0&g=" + row[3]
                    + ";odd 5 p=0&g=" + row[1]);
            due("fewest, row " + n, x.line(4, -1), 0);
            for (int k = 0; k < 4; k++) {
                due("row " + n + ", k " + k, x.line(4, k), row[k]);
            }
        }
    }

    private static void worth() {
        Check.group("promise 20");
        // v 5 modulo 3 is 2: of 2 alone it is a friend, by 25.
        TwoTrue x = new TwoTrue();
        x.person(FRIEND, 5);
        x.person(GUEST, 0);
        x.person(GUEST, 0);
        x.lie(2, 1);
        due("one more", x.worth(0), 1);
        likely(x, 2, 50, 76, 50);
        due("24 + ... is too few", x.worth(0), 0);
        likely(x, 2, 50, 40, 50);
        due("a guest guesses it, too", x.worth(0), 0);
        // A told one is led astray by its row: below 0.
        x = with(TOLD, GUEST, GUEST, GUEST);
        for (int part = 0; part < 4; part++) {
            x.row(0, part, part % 3);
        }
        due("row 0: as a guest", x.worth(0), 0);
        x.round(1);
        due("row 1: astray three times", x.worth(0), -3);
        x.lie(2, 1);
        due("of 2 it is right by it", x.worth(0), -1);
        // Of E, KIND is as it is.
        x = with(TOLD, GUEST);
        x.row(0, 0, 1);
        read(x, "odd 60 k=6&p=2");
        x.lie(1, 2);
        due("as a guest by E of its own", x.worth(0), 0);
        x.row(0, 0, 0);
        x.thing(1, 0, 0, 20);
        due("79 + 40 to 109, 79 to 109", x.worth(0), -1);
        // As a guest the friend would guess place 1: 49, 52, 50.
        x = new TwoTrue();
        x.person(GUEST, 0);
        x.person(FRIEND, 0);
        likely(x, 0, 50, 47, 49);
        x.lie(0, 1);
        due("right as a guest", x.worth(1), 0);
        x.lie(0, 2);
        due("wrong as a guest, and as a friend by 0", x.worth(1), 0);
        x = new TwoTrue();
        x.person(GUEST, 0);
        x.person(FRIEND, 2);
        likely(x, 0, 50, 47, 49);
        x.lie(0, 2);
        due("of 0, too", x.worth(1), 1);
        due("alone", with(FRIEND).worth(0), 0);
        x = with(GUEST, READER, FOLLOWER, SHARP, SHEEP);
        for (int p = 0; p < 5; p++) {
            due("another kind", x.worth(p), -1003);
        }
        due("no such one", x.worth(5), -1001);
        due("person -1", x.worth(-1), -1001);
    }

    private static void see() {
        Check.group("promise 21");
        TwoTrue x = new TwoTrue();
        for (int p = 0; p < 3; p++) {
            due("at first", x.see(p, p + 3), 0);
        }
        due("place 0", x.see(0, 0), 3);
        due("place 1", x.see(1, 0), 4);
        due("n 6", x.see(2, 6), -2);
        due("n -1", x.see(2, -1), -2);
        due("place 3", x.see(3, 0), -1);
        due("place -1", x.see(-1, 0), -1);
        due("place ahead of n", x.see(3, 6), -1);
        due("place 2", x.see(2, 0), 5);
    }

    private static void lies() {
        Check.group("promise 22");
        TwoTrue x = new TwoTrue();
        x.person(GUEST, 0);
        due("alone, none seen", x.lies(0), 7);
        x.see(1, 1);
        due("alone, one seen", x.lies(0), 0);
        x.person(FRIEND, 8);
        // The friend guesses the lie, whichever it is.
        due("at place 1", x.lies(0), 2);
        x.tells(0, 2, 0);
        due("at place 1: thing 0", x.lies(0), 1);
        x.person(GUEST, 0);
        due("the guest is not seen", x.lies(0), 0);
        x.see(0, 1);
        x.see(1, 0);
        x.see(0, 2);
        // 8 modulo 3 is 2: no friend of 0 now: both guess place 0 whatever the lie is.
        due("any", x.lies(0), 7);
        due("no such one", x.lies(3), -1);
        due("teller -1", x.lies(-1), -1);
        x.see(0, 1);
        x.see(2, 1);
        due("none", x.lies(0), 0);
        due("the lie stays", x.of(0, 3), 0);
    }

    private static void ends() {
        Check.group("promise 23");
        // 0 tells: 1 guesses its lie (place 0). 1 tells: 0 does not guess its lie (place 1).
        TwoTrue x = with(GUEST, GUEST);
        x.lie(1, 1);
        due("none yet", x.ends(1, 0, 0), 0);
        due("of several the first", x.ends(1, 0, 1), 0);
        due("one round", x.ends(1, 1, 0), 1);
        due("who has most", x.ends(0, 1, 1), 1);
        due("two rounds", x.ends(1, 2, 0), 2);
        due("30 rounds", x.ends(1, 30, 0), 30);
        due("30 rounds", x.ends(0, 30, 0), 0);
        due("nothing changed", x.told(0), 0);
        due("nothing changed", x.of(1, 2), 0);
        x.lie(0, 1);
        due("each is taken in by the other", x.ends(0, 30, 0), 15);
        due("of several the first", x.ends(0, 30, 1), 0);
        due("odd rounds", x.ends(0, 29, 0), 15);
        due("odd rounds", x.ends(1, 29, 0), 14);
        x.round(0);
        // Round 1: 1 tells first now.
        due("from round 1 on", x.ends(0, 1, 0), 1);
        due("from round 1 on", x.ends(1, 1, 0), 1);
        due("n 31", x.ends(0, 31, 0), -2);
        due("n -1", x.ends(0, -1, 0), -2);
        due("what 2", x.ends(0, 0, 2), -1);
        due("what -1", x.ends(0, 0, -1), -1);
        due("no such one", x.ends(2, 0, 1), -1);
        due("person -1", x.ends(-1, 0, 0), -1);
        due("NONE ahead of BAD", x.ends(0, 31, 2), -1);
        for (int r = 1; r < 999; r++) {
            x.round(0);
        }
        // 999 rounds told by 0; then 1, 0, 1 ..: beyond 999, too.
        due("at 999", x.ends(0, 0, 0), 999);
        due("beyond 999", x.ends(0, 30, 0), 999 + 15);
        due("beyond 999", x.ends(1, 30, 0), 15);
        due("beyond 999", x.ends(1, 1, 0), 1);
        due("round stays", x.told(0), 999);
    }

    private static void odds() {
        Check.group("promise 24");
        // The lie (thing 0) seems likelier (60): the guest is taken in, but if it were forgotten: 49, 49, 49.
        TwoTrue x = with(GUEST, GUEST);
        likely(x, 0, 60, 50, 50);
        due("above", x.odds(0, 0), 2);
        due("below", x.odds(0, 1), 3);
        due("likely stays", x.of(0, 20), 60);
        x.lie(0, 1);
        // Lie at place 1: guessed at 39, 49, 49; but not at 49, 49, 49.
        due("above", x.odds(0, 0), 1);
        due("below", x.odds(0, 1), 3);
        x.lie(0, 2);
        due("always above", x.odds(0, 0), 1);
        due("always below", x.odds(0, 1), 1);
        likely(x, 0, 60, 60, 10);
        due("never above", x.odds(0, 0), 0);
        due("never below", x.odds(0, 1), 1);
        // As many taken in as not: not more.
        x = with(GUEST, GUEST, SHARP);
        due("half is not more", x.odds(0, 0), 0);
        x.person(SHARP, 0);
        due("two of three", x.odds(0, 0), 1);
        due("two of three", x.odds(0, 1), 1);
        due("alone", with(GUEST).odds(0, 0), 0);
        due("alone", with(GUEST).odds(0, 1), 1);
        due("part 2", x.odds(0, 2), TwoTrue.NO);
        due("part -1", x.odds(0, -1), TwoTrue.NO);
        due("no such one", x.odds(4, 0), TwoTrue.NO);
        due("teller -1", x.odds(-1, 0), TwoTrue.NO);
    }

    private static void mean() {
        Check.group("promise 25");
        TwoTrue x = new TwoTrue();
        due("nobody", x.mean(0), TwoTrue.NO);
        due("nobody", x.mean(1), TwoTrue.NO);
        x = with(GUEST, GUEST, GUEST, GUEST);
        due("none is taken in", x.mean(0), 0);
        due("none is taken in", x.mean(1), 1);
        x.lie(2, 1);
        due("3 by 4", x.mean(0), 3);
        due("3 by 4", x.mean(1), 4);
        x.lie(0, 1);
        due("6 by 4", x.mean(0), 3);
        due("6 by 4", x.mean(1), 2);
        x.lie(1, 2);
        x.lie(3, 2);
        due("12 by 4", x.mean(0), 3);
        due("12 by 4", x.mean(1), 1);
        due("part 2", x.mean(2), TwoTrue.NO);
        due("part -1", x.mean(-1), TwoTrue.NO);
        due("round stays", x.told(0), 0);
    }

    private static void book() {
        Check.group("promise 26");
        TwoTrue x = with(GUEST, GUEST);
        due("no such one", x.book(0, 2, 0), -1);
        due("person -1", x.book(0, -1, 0), -1);
        due("no such teller", x.book(2, 0, 0), -1);
        due("teller -2", x.book(-2, 0, 0), -1);
        due("place 3", x.book(0, 1, 3), -1);
        due("place -1", x.book(0, 1, -1), -1);
        due("place ahead of BAD", x.book(1, 1, 3), -1);
        due("one of the people", x.book(1, 1, 0), -2);
        for (int r = 1; r <= 12; r++) {
            due("row " + r, x.book(r % 2, 1 - r % 2, r % 3), r);
        }
        due("FULL", x.book(0, 1, 0), -4);
        due("NONE ahead of FULL", x.book(0, 1, 3), -1);
        due("BAD ahead of FULL", x.book(0, 0, 0), -2);
        due("twelve", x.count(2), 12);
        due("emptied", x.book(-1, 77, -9), 0);
        due("none", x.count(2), 0);
        due("one again", x.book(0, 1, 0), 1);
        due("nobody", new TwoTrue().book(-1, 0, 0), 0);
    }

    private static void looked() {
        Check.group("promise 27");
        TwoTrue x = with(GUEST, GUEST, SHARP);
        due("an empty book", x.looked(), -5);
        x.book(0, 1, 0);
        x.book(0, 2, 2);
        x.book(1, 0, 0);
        due("all is so", x.looked(), -5);
        x.book(1, 2, 1);
        x.book(1, 2, 0);
        due("the first that is otherwise", x.looked(), 3);
        x.thing(0, 1, 0, 0);
        due("as all is now", x.looked(), 0);
        x.book(-1, 0, 0);
        // Of 0 all guess place 1; of 1, place 0, but for the sharp one; of 2, place 0.
        x.book(1, 2, 2);
        x.book(0, 2, 1);
        x.book(2, 1, 0);
        x.book(0, 1, 1);
        x.book(1, 0, 0);
        x.book(2, 0, 0);
        due("all is so", x.looked(), -5);
        x.book(2, 1, 1);
        due("the seventh is not", x.looked(), 6);
        x.book(-1, 0, 0);
        for (int r = 0; r < 12; r++) {
            x.book(0, 1, 1);
        }
        due("all twelve are so", x.looked(), -5);
        x.book(-1, 0, 0);
        due("an empty book", x.looked(), -5);
        x.book(0, 1, 0);
        due("row 0", x.looked(), 0);
    }

    private static void judge() {
        Check.group("promise 28");
        TwoTrue x = new TwoTrue();
        x.tape(1, 1, 3);
        due("nobody to look at", x.judge(1, 0), -5);
        due("nobody, beyond", x.judge(1, 9), -5);
        x = with(GUEST, GUEST, GUEST);
        x.lie(0, 1);
        x.round(0);
        due("points of 0", x.of(0, 2), 2);
        due("holds nothing", x.judge(1, 0), 100);
        x.tape(1, 1, 5);
        due("the first that is otherwise", x.judge(1, 0), 0);
        x.item(1, 2, 2);
        due("as told from 2 on", x.judge(1, 2), -5);
        due("the row ends behind two", x.judge(1, 3), 0);
        x.item(1, 3, 2);
        due("the row ends behind two", x.judge(1, 3), 102);
        x.item(1, 4, 2);
        due("the row ends behind one", x.judge(1, 4), 101);
        due("at its end", x.judge(1, 5), 100);
        due("beyond", x.judge(1, 6), 100);
        due("far beyond", x.judge(1, MAX), 100);
        due("below 0", x.judge(1, -1), 100);
        due("far below 0", x.judge(1, MIN), 100);
        due("otherwise at 1", x.judge(1, 2), 1);
        x.item(1, 3, 0);
        due("otherwise at 2", x.judge(1, 2), 2);
        x.item(1, 4, 65536);
        due("the lowest bits", x.judge(1, 2), -5);
        for (int sort = 0; sort < 5; sort++) {
            x.tape(2, sort, 0);
            due("sort " + sort, x.judge(2, 0), sort == 1 ? 100 : -12);
        }
        due("tape 6", x.judge(6, 0), -1);
        due("tape -1", x.judge(-1, 0), -1);
    }

    private static void image() {
        Check.group("promise 29");
        TwoTrue x = new TwoTrue();
        due("nobody", x.image(), 0);
        due("undone", x.undo(), 0);
        x.person(GUEST, 0);
        x.person(GUEST, 0);
        due("two", x.image(), 2);
        x.person(GUEST, 0);
        due("the newest image", x.undo(), 2);
        x.person(GUEST, 0);
        due("three", x.image(), 3);
        due("three", x.undo(), 3);
    }

    private static void undo() {
        Check.group("promise 30");
        TwoTrue x = new TwoTrue();
        due("no image", x.undo(), -3);
        x.person(TOLD, 4);
        x.person(READER, 5);
        x.row(0, 2, 1);
        likely(x, 0, 1, 2, 3);
        lengths(x, 1, 4, 5, 6);
        x.lie(0, 1);
        x.tells(1, 2, 0);
        x.round(0);
        x.see(1, 4);
        x.book(0, 1, 2);
        read(x, "hands 33");
        int points = x.of(0, 2);
        due("image", x.image(), 2);
        for (int times = 0; times < 2; times++) {
            x.person(SHEEP, 1);
            x.thing(2, 0, 0, 9);
            x.lie(2, 2);
            x.tells(2, 2, 1);
            x.row(0, 2, 2);
            likely(x, 0, 7, 7, 7);
            lengths(x, 1, 7, 7, 7);
            x.lie(0, 0);
            x.tells(1, 0, 1);
            x.round(0);
            x.round(1);
            x.see(1, 0);
            x.book(1, 0, 0);
            x.tape(3, 0, 2 + times);
            x.act(0, 0, 0);
            read(x, "hands 4" + times);
            x.feed('h');
            due("two again", x.undo(), 2);
            due("people", x.count(0), 2);
            due("nobody at 2", x.of(2, 0), -1);
            due("round", x.told(0), 1);
            due("which evening holds", x.told(1), 33);
            due("evenings are no part of it", x.count(1), 2 + times);
            due("nor is the text", x.count(3), 1);
            due("nor a tape", x.read(3, 1 + times), 0);
            due("nor the trace", x.trace(0), 71);
            due("book", x.count(2), 1);
            due("points", x.of(0, 2), points);
            due("lie", x.of(0, 3), 1);
            due("likely", x.of(0, 22), 3);
            due("long", x.of(1, 32), 6);
            due("order", x.of(1, 10), 2);
            due("v", x.of(1, 1), 5);
            due("row", x.row(0, 2, 1), 1);
            due("seen", x.see(1, 4), 4);
            x.evening();
        }
        x.person(TOLD, 1);
        for (int part = 0; part < 4; part++) {
            x.row(2, part, 2);
        }
        x.lie(2, 1);
        likely(x, 2, 1, 2, 3);
        lengths(x, 2, 1, 2, 3);
        x.tells(2, 1, 2);
        x.round(2);
        x.round(0);
        x.undo();
        due("who comes anew", x.person(TOLD, 2), 2);
        for (int part = 0; part < 4; part++) {
            due("has a row of 0", x.row(2, part, 0), 0);
        }
        for (int t = 0; t < 3; t++) {
            due("has long 5", x.of(2, 30 + t), 5);
            due("has likely 50", x.of(2, 20 + t), 50);
            due("tells by numbers", x.of(2, 10 + t), t);
        }
        due("has no points", x.of(2, 2), 0);
        due("has 50", x.of(2, 20), 50);
        due("lies of 0", x.of(2, 3), 0);
        due("tells 0 first", x.of(2, 10), 0);
        due("number of the next evening", read(x, "hands 1"), 3);
        x = with(GUEST);
        x.image();
        read(x, "hands 1");
        x.undo();
        due("none holds", x.told(1), 10);
        x = with(GUEST, GUEST);
        for (int r = 0; r < 12; r++) {
            x.book(r % 2, 1 - r % 2, r == 11 ? 1 : 0);
        }
        x.image();
        x.book(-1, 0, 0);
        for (int r = 0; r < 12; r++) {
            x.book(0, 1, 2);
        }
        due("another book", x.looked(), 0);
        x.undo();
        due("the book again, all twelve rows", x.looked(), 11);
    }

    private static void act() {
        Check.group("promise 31");
        TwoTrue x = new TwoTrue();
        for (int kind : new int[] {READER, FOLLOWER, FRIEND, SHARP, SHEEP, TOLD}) {
            x.person(kind, 3);
        }
        // READER 0: doubts 5; guesses (5 - 3) ^ 6 = 4; tells 8.
        due("reader doubts", x.act(0, 0, 5), 5);
        due("reader guesses", x.act(0, 1, 5), 4);
        due("reader tells", x.act(0, 2, 5), 8);
        // FOLLOWER 1: doubts 15 + 1; guesses 13; tells 26.
        due("follower doubts", x.act(1, 0, 5), 16);
        due("follower guesses", x.act(1, 1, 5), 13);
        due("follower tells", x.act(1, 2, 5), 26);
        // FRIEND 2: doubts 7; guesses 4; tells 8 + (1 + 2 - 3).
        due("friend doubts", x.act(2, 0, 5), 7);
        due("friend guesses", x.act(2, 1, 5), 4);
        due("friend tells", x.act(2, 2, 5), 8);
        // SHARP 3: doubts -8; guesses (-(6 + 3) - 3) ^ 6 = -12 ^ 6 = -14; tells -28.
        due("sharp doubts", x.act(3, 0, 5), -8);
        due("sharp guesses", x.act(3, 1, 5), -14);
        due("sharp tells", x.act(3, 2, 5), -28);
        // SHEEP 4: doubts 15 + 4; guesses 16; tells (5 - 4) * 3 + 4 - 3 = 4, times 2.
        due("sheep doubts", x.act(4, 0, 5), 19);
        due("sheep guesses", x.act(4, 1, 5), 16);
        due("sheep tells", x.act(4, 2, 5), 8);
        // TOLD 5: doubts (5 + 5) ^ 3 = 9; guesses 9 - 3 + (2 + 5) = 13; tells 26 + ((6 ^ 3) - 3 + 7) = 35.
        due("told doubts", x.act(5, 0, 5), 9);
        due("told guesses", x.act(5, 1, 5), 13);
        due("told tells", x.act(5, 2, 5), 35);
        due("wrapping", x.act(4, 0, MAX), MAX * 3 + 4);
        due("wrapping", x.act(5, 0, MAX), (MAX + 5) ^ 3);
        due("wrapping", x.act(0, 2, MIN), ((MIN - 3) ^ 6) * 2);
        x = with(FOLLOWER, GUEST);
        due("guest doubts", x.act(1, 0, 5), 6);
        due("guest guesses", x.act(1, 1, 5), 6);
        due("guest tells", x.act(1, 2, -5), -8);
        for (int[] none : new int[][] {{2, 0}, {-1, 0}, {0, 3}, {0, -1}, {MIN, MAX}}) {
            x.act(0, 2, 9);
            due("no such one, act", x.act(none[0], none[1], 9), 0);
            due("and no trace then", x.trace(0), -1);
            due("and no bodies", x.count(4), 0);
        }
    }

    private static void traceOf(TwoTrue x, int person, int act, int... bodies) {
        x.act(person, act, 1);
        String call = "act(" + person + ", " + act + ", 1), trace ";
        for (int i = 0; i < bodies.length; i++) {
            due(call + i, x.trace(i), bodies[i]);
        }
        due(call + bodies.length, x.trace(bodies.length), -1);
        due(call + "-1", x.trace(-1), -1);
        due(call + "MAX", x.trace(MAX), -1);
        due("how many ran", x.count(4), bodies.length);
    }

    private static void trace() {
        Check.group("promise 32");
        TwoTrue x = new TwoTrue();
        for (int kind : new int[] {READER, FOLLOWER, FRIEND, SHARP, SHEEP, TOLD}) {
            x.person(kind, 3);
        }
        traceOf(x, 0, 0, 10);
        traceOf(x, 0, 1, 20, 11, 10);
        traceOf(x, 0, 2, 12, 20, 11, 10);
        traceOf(x, 1, 0, 30, 10);
        traceOf(x, 1, 1, 11, 30, 10);
        traceOf(x, 1, 2, 12, 11, 30, 10);
        traceOf(x, 2, 0, 10);
        traceOf(x, 2, 1, 11, 10);
        traceOf(x, 2, 2, 40, 12, 11, 10, 11, 10);
        traceOf(x, 3, 0, 50, 10);
        traceOf(x, 3, 1, 51, 20, 11, 50, 10);
        traceOf(x, 3, 2, 12, 51, 20, 11, 50, 10);
        traceOf(x, 4, 0, 30, 10);
        traceOf(x, 4, 1, 11, 30, 10);
        traceOf(x, 4, 2, 60, 12, 11, 30, 10);
        traceOf(x, 5, 0, 71, 10);
        traceOf(x, 5, 1, 70, 11, 71, 10, 10);
        traceOf(x, 5, 2, 40, 12, 70, 11, 71, 10, 10, 70, 11, 71, 10, 10);
        traceOf(x, 0, 0, 10);
    }

    private static void taken() {
        Check.group("promise 33");
        int[] above = {-1, 0, 0, 0, 1, 2, 3};
        for (int kind = 0; kind < 7; kind++) {
            TwoTrue x = with(kind);
            for (int k = 0; k < 7; k++) {
                boolean is = k == kind || k == above[kind] || k == 0;
                due(kind + " taken for " + k, x.taken(0, k), is ? kind : -12);
            }
        }
        TwoTrue x = with(SHEEP);
        due("kind 7", x.taken(0, 7), -2);
        due("kind -1", x.taken(0, -1), -2);
        due("BAD ahead of NOTHING", x.taken(1, 7), -2);
        due("no such one", x.taken(1, 0), -11);
        due("person -1", x.taken(-1, 0), -11);
        due("person MIN", x.taken(MIN, 0), -11);
    }

    private static void count() {
        Check.group("promise 34");
        TwoTrue x = with(GUEST, SHARP, GUEST);
        read(x, "hands 1");
        read(x, "hands 2");
        x.feed('h');
        x.feed('a');
        x.feed('n');
        x.feed('d');
        x.book(0, 1, 2);
        x.act(1, 2, 0);
        int[] dues = {3, 2, 1, 4, 6};
        for (int what = 0; what < 5; what++) {
            due("count(" + what + ")", x.count(what), dues[what]);
        }
        due("count(5)", x.count(5), -2);
        due("count(-1)", x.count(-1), -2);
    }

    private static void tape() {
        Check.group("promise 35");
        TwoTrue x = new TwoTrue();
        due("tape 6", x.tape(6, 0, 1), -1);
        due("tape -1", x.tape(-1, 0, 1), -1);
        due("tape 6 ahead of all", x.tape(6, 9, -1), -1);
        due("tape 6, sort -1", x.tape(6, -1, 0), -1);
        for (int sort = 0; sort < 5; sort++) {
            due("60 of sort " + sort, x.tape(5, sort, 60), 1);
            due("its last", x.read(5, 59), 0);
            due("beyond", x.read(5, 60), TwoTrue.NO);
            x.item(5, 59, 1);
            due("all 0 anew", x.tape(5, sort, 60), 1);
            due("its last", x.read(5, 59), 0);
            x.item(5, 59, 1);
            due("shorter", x.tape(5, sort, 59), 1);
            due("beyond", x.read(5, 59), TwoTrue.NO);
        }
        due("sort 5", x.tape(5, 5, 1), -2);
        due("sort -2", x.tape(5, -2, 1), -2);
        due("sort ahead of size", x.tape(5, 5, -1), -2);
        due("n 61", x.tape(5, 0, 61), -2);
        due("n MAX", x.tape(5, 0, MAX), -2);
        due("n -1", x.tape(5, 0, -1), -14);
        due("n MIN", x.tape(5, 0, MIN), -14);
        due("still", x.read(5, 58), 0);
        due("nothing", x.tape(5, -1, -7), 1);
        due("nothing is there", x.item(5, 0, 0), -11);
        due("nothing", x.tape(5, -1, 99), 1);
        due("of no items", x.tape(5, 0, 0), 1);
        due("no place", x.item(5, 0, 0), -13);
    }

    private static void item() {
        Check.group("promise 36");
        TwoTrue x = new TwoTrue();
        long v = 0x123456789ABCDEFFL;
        long[] dues = {(byte) 0xFF, (short) 0xDEFF, (int) 0x9ABCDEFFL, v, 1};
        for (int sort = 0; sort < 5; sort++) {
            x.tape(sort, sort, 3);
            due("item", x.item(sort, 2, v), 1);
            due("read", x.read(sort, 2), dues[sort]);
            due("the one ahead", x.read(sort, 1), 0);
            due("item", x.item(sort, 2, 256), 1);
            due("256", x.read(sort, 2), sort == 0 ? 0 : sort == 4 ? 1 : 256);
            due("item", x.item(sort, 0, -1), 1);
            due("-1", x.read(sort, 0), sort == 4 ? 1 : -1);
            due("item", x.item(sort, 0, 0), 1);
            due("0", x.read(sort, 0), 0);
            due("place 3", x.item(sort, 3, 0), -13);
            due("place -1", x.item(sort, -1, 0), -13);
            due("place MIN", x.item(sort, MIN, 0), -13);
        }
        due("a long's highest bit", x.item(4, 0, Long.MIN_VALUE), 1);
        due("a long's highest bit", x.read(4, 0), 1);
        due("nothing is there", x.item(5, -1, 0), -11);
        due("tape 6", x.item(6, 0, 0), -1);
        due("tape -1", x.item(-1, 0, 0), -1);
    }

    private static void read() {
        Check.group("promise 37");
        TwoTrue x = new TwoTrue();
        x.tape(0, 3, 2);
        x.item(0, 1, Long.MAX_VALUE);
        due("item 1", x.read(0, 1), Long.MAX_VALUE);
        due("item 0", x.read(0, 0), 0);
        due("item 2", x.read(0, 2), TwoTrue.NO);
        due("item -1", x.read(0, -1), TwoTrue.NO);
        due("item MAX", x.read(0, MAX), TwoTrue.NO);
        due("nothing there", x.read(1, 0), TwoTrue.NO);
        due("tape 6", x.read(6, 0), TwoTrue.NO);
        due("tape -1", x.read(-1, 0), TwoTrue.NO);
        due("tape MIN", x.read(MIN, 0), TwoTrue.NO);
    }

    private static void fill(TwoTrue x, int tape, int sort, int n) {
        x.tape(tape, sort, n);
        for (int i = 0; i < n; i++) {
            x.item(tape, i, 10 * tape + i);
        }
    }

    private static void tapeIs(TwoTrue x, int tape, int... items) {
        for (int i = 0; i < items.length; i++) {
            due("tape " + tape + ", item " + i, x.read(tape, i), items[i]);
        }
        due("tape " + tape + ", its end", x.read(tape, items.length), TwoTrue.NO);
    }

    private static void shift() {
        Check.group("promise 38");
        TwoTrue x = new TwoTrue();
        fill(x, 1, 2, 5);
        fill(x, 2, 2, 4);
        due("two items", x.shift(1, 1, 2, 2, 2), 2);
        tapeIs(x, 1, 10, 11, 12, 13, 14);
        tapeIs(x, 2, 20, 21, 11, 12);
        due("upwards on itself", x.shift(1, 0, 1, 1, 4), 4);
        tapeIs(x, 1, 10, 10, 11, 12, 13);
        due("downwards on itself", x.shift(1, 2, 1, 0, 3), 3);
        tapeIs(x, 1, 11, 12, 13, 12, 13);
        due("no items", x.shift(1, 5, 2, 4, 0), 0);
        due("i beyond", x.shift(1, 4, 2, 0, 2), -13);
        due("j beyond", x.shift(1, 0, 2, 3, 2), -13);
        due("i beyond, none", x.shift(1, 6, 2, 0, 0), -13);
        due("j beyond, none", x.shift(1, 0, 2, 5, 0), -13);
        due("n below 0", x.shift(1, 2, 2, 2, -1), -13);
        due("i below 0", x.shift(1, -1, 2, 0, 1), -13);
        due("j below 0", x.shift(1, 0, 2, -1, 1), -13);
        due("n MAX", x.shift(1, 1, 2, 1, MAX), -13);
        due("i MAX", x.shift(1, MAX, 2, 0, 1), -13);
        due("j MAX", x.shift(1, 0, 2, MAX, MAX), -13);
        due("n MIN", x.shift(1, 0, 2, 0, MIN), -13);
        due("tape 6", x.shift(6, 0, 2, 0, 1), -1);
        due("other -1", x.shift(1, 0, -1, 0, 1), -1);
        due("nothing there", x.shift(0, 0, 1, 0, 0), -11);
        due("nothing there", x.shift(1, -1, 0, 0, 0), -11);
        due("NONE ahead of NOTHING", x.shift(0, 0, 6, 0, 0), -1);
        fill(x, 3, 3, 5);
        due("of unlike sorts", x.shift(1, 0, 3, 0, 1), -12);
        due("CAST ahead of PLACE", x.shift(1, -1, 3, 0, 1), -12);
        tapeIs(x, 1, 11, 12, 13, 12, 13);
        tapeIs(x, 2, 20, 21, 11, 12);
        for (int sort = 0; sort < 4; sort++) {
            fill(x, 4, sort, 3);
            x.tape(5, sort, 4);
            due("of sort " + sort, x.shift(4, 0, 5, 1, 3), 3);
            tapeIs(x, 5, 0, 40, 41, 42);
        }
    }
}
