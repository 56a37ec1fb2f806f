import java.util.Arrays;
import java.util.function.Supplier;

/**
 * For each promise, 1 to 38, each of its sentences that names a boundary case: the smallest and the largest number
 * that is taken, the first beyond each, which refusal goes ahead of which, and that a refused call changes nothing.
 */
public final class PromiseEdgeTest extends Asking {
    private static final int[] NO_THREE = {-1, 3, MIN, MIN + 3, MAX};
    private static final int[] NO_SIX = {-1, 6, MIN, MIN + 6, MAX};
    private static final int[] NO_TWO = {-1, 2, MIN, MAX};
    private static final int[] NO_FOUR = {-1, 4, MIN, MAX};
    private static final int[] NO_SEVEN = {-1, 7, MIN, MAX};
    private static final int[] NO_TEN = {-1, 10, MIN, MAX};
    private static final int[] NO_HUNDRED = {-1, 100, MIN, MAX};

    private PromiseEdgeTest() { }

    public static void main(String[] args) {
        newObject();
        person();
        thing();
        lie();
        tells();
        of();
        row();
        feed();
        eveningFull();
        eveningFault();
        told();
        doubt();
        round();
        guess();
        hands();
        order();
        likely();
        best();
        first();
        line();
        worth();
        see();
        lies();
        ends();
        odds();
        mean();
        book();
        bookEmptied();
        looked();
        judge();
        image();
        undo();
        act();
        trace();
        taken();
        count();
        tape();
        item();
        read();
        shift();
        Check.end("PromiseEdgeTest");
    }

    private interface IntCall {
        long on(TwoTrue x, int n);
    }

    /** Each of these numbers is answered so, and changes nothing. */
    private static void each(String call, long want, Supplier<TwoTrue> made, int[] ns, IntCall asked) {
        for (int n : ns) {
            Twins.still(call + " " + n, want, made, x -> asked.on(x, n));
        }
    }

    private static TwoTrue fresh() {
        return new TwoTrue();
    }

    private static TwoTrue six() {
        return with(GUEST, READER, FOLLOWER, FRIEND, SHARP, SHEEP);
    }

    private static void newObject() {
        says("promise 1", "Nobody, no EVENING.");
        TwoTrue x = new TwoTrue();
        for (int what = 0; what < 5; what++) {
            due("count(" + what + ")", x.count(what), 0);
        }
        for (int p = -1; p < 7; p++) {
            due("of(" + p + ", 0)", x.of(p, 0), -1);
        }
        due("round", x.told(0), 0);
        due("hands without an evening", x.told(1), 10);
        due("no image", x.undo(), -3);
        due("no trace", x.trace(0), -1);
        due("an empty book", x.looked(), -5);
        due("nobody", x.mean(0), TwoTrue.NO);
        for (int place = 0; place < 3; place++) {
            due("none seen", x.see(place, 0), 0);
        }
        // Nothing is shared by two objects.
        TwoTrue other = Twins.full();
        due("the other has six", other.count(0), 6);
        due("this one has nobody", x.count(0), 0);
        due("nor a tape", x.item(0, 0, 0), -11);
    }

    private static void person() {
        says("promise 2", "One of the PEOPLE: the number.");
        for (int kind = 0; kind < 7; kind++) {
            for (int v = 0; v < 10; v += 9) {
                TwoTrue x = with(GUEST, GUEST);
                due("kind " + kind + ", v " + v, x.person(kind, v), 2);
                due("its kind", x.of(2, 0), kind);
                due("its v", x.of(2, 1), v);
            }
        }
        says("promise 2", "NONE: kind");
        each("kind", -1, PromiseEdgeTest::fresh, NO_SEVEN, (x, n) -> x.person(n, 0));
        each("kind", -1, Twins::few, NO_SEVEN, (x, n) -> x.person(n, 9));
        says("promise 2", "BAD: v");
        each("v", -2, PromiseEdgeTest::fresh, NO_TEN, (x, n) -> x.person(0, n));
        each("v", -2, Twins::few, NO_TEN, (x, n) -> x.person(6, n));
        says("promise 2", "FULL: 6.");
        TwoTrue x = new TwoTrue();
        for (int p = 0; p < 6; p++) {
            due("room for " + p, x.person(GUEST, 0), p);
        }
        due("no more", x.person(GUEST, 0), -4);
        each("kind", -4, Twins::full, new int[] {0, 1, 2, 3, 4, 5, 6}, (y, n) -> y.person(n, 9));
        each("v", -4, PromiseEdgeTest::six, new int[] {0, 9}, (y, n) -> y.person(6, n));
        says("promise 2", "NONE: kind; BAD: v; FULL: 6.");
        each("NONE ahead of BAD, kind", -1, Twins::few, NO_SEVEN, (y, n) -> y.person(n, 10));
        each("NONE ahead of FULL, kind", -1, Twins::full, NO_SEVEN, (y, n) -> y.person(n, 0));
        each("NONE ahead of both, kind", -1, Twins::full, NO_SEVEN, (y, n) -> y.person(n, -1));
        each("BAD ahead of FULL, v", -2, Twins::full, NO_TEN, (y, n) -> y.person(0, n));
    }

    private static void thing() {
        says("promise 3", "Of a THING of one what 0 LIKELY, 1 LONG becomes n: what it was.");
        int[][] ends = {{0, 99, 50, 20}, {0, 9, 5, 30}};
        for (int what = 0; what < 2; what++) {
            for (int thing = 0; thing < 3; thing++) {
                TwoTrue x = six();
                due("the least", x.thing(5, thing, what, ends[what][0]), ends[what][2]);
                due("is", x.of(5, ends[what][3] + thing), ends[what][0]);
                due("the most", x.thing(5, thing, what, ends[what][1]), ends[what][0]);
                due("is", x.of(5, ends[what][3] + thing), ends[what][1]);
                due("the same again", x.thing(5, thing, what, ends[what][1]), ends[what][1]);
            }
        }
        says("promise 3", "NONE");
        each("person", -1, PromiseEdgeTest::fresh, new int[] {-1, 0, 5}, (x, n) -> x.thing(n, 0, 0, 1));
        each("person", -1, Twins::few, NO_THREE, (x, n) -> x.thing(n, 0, 0, 1));
        each("person", -1, Twins::full, NO_SIX, (x, n) -> x.thing(n, 0, 1, 1));
        each("thing", -1, Twins::few, NO_THREE, (x, n) -> x.thing(1, n, 0, 1));
        each("thing", -1, Twins::few, NO_THREE, (x, n) -> x.thing(1, n, 1, 1));
        each("what", -1, Twins::few, NO_TWO, (x, n) -> x.thing(1, 0, n, 1));
        says("promise 3", "BAD: n.");
        for (int thing = 0; thing < 3; thing++) {
            int t = thing;
            each("LIKELY", -2, Twins::few, NO_HUNDRED, (x, n) -> x.thing(0, t, 0, n));
            each("LONG", -2, Twins::few, NO_TEN, (x, n) -> x.thing(2, t, 1, n));
        }
        each("LONG as much as LIKELY may be", -2, Twins::few, new int[] {11, 50, 99}, (x, n) -> x.thing(2, 0, 1, n));
        says("promise 3", "NONE; BAD: n.");
        each("person ahead of n", -1, Twins::few, NO_THREE, (x, n) -> x.thing(n, 0, 0, 100));
        each("thing ahead of n", -1, Twins::few, NO_THREE, (x, n) -> x.thing(0, n, 0, -1));
        each("what ahead of n", -1, Twins::few, NO_TWO, (x, n) -> x.thing(0, 0, n, 100));
    }

    private static void lie() {
        says("promise 4", "The LIE of one becomes a THING: what it was.");
        for (int was = 0; was < 3; was++) {
            for (int thing = 0; thing < 3; thing++) {
                TwoTrue x = six();
                x.lie(5, was);
                due("what it was", x.lie(5, thing), was);
                due("what it is", x.of(5, 3), thing);
                due("of another one", x.of(4, 3), 0);
            }
        }
        says("promise 4", "NONE.");
        each("person", -1, PromiseEdgeTest::fresh, new int[] {-1, 0, 5}, (x, n) -> x.lie(n, 0));
        each("person", -1, Twins::few, NO_THREE, (x, n) -> x.lie(n, 0));
        each("person", -1, Twins::full, NO_SIX, (x, n) -> x.lie(n, 2));
        each("thing", -1, Twins::few, NO_THREE, (x, n) -> x.lie(0, n));
    }

    private static void tells() {
        says("promise 5", "One tells its THINGS in the order first, second, and the third: 1.");
        for (int first = 0; first < 3; first++) {
            for (int second = 0; second < 3; second++) {
                if (first != second) {
                    TwoTrue x = six();
                    due("tells", x.tells(5, first, second), 1);
                    due("the first", x.of(5, 10), first);
                    due("the second", x.of(5, 11), second);
                    due("the third", x.of(5, 12), 3 - first - second);
                    due("another one", x.of(4, 10), 0);
                }
            }
        }
        says("promise 5", "NONE: person, things");
        each("person", -1, PromiseEdgeTest::fresh, new int[] {-1, 0, 5}, (x, n) -> x.tells(n, 0, 1));
        each("person", -1, Twins::few, NO_THREE, (x, n) -> x.tells(n, 0, 1));
        each("person", -1, Twins::full, NO_SIX, (x, n) -> x.tells(n, 0, 1));
        each("first", -1, Twins::few, NO_THREE, (x, n) -> x.tells(1, n, 1));
        each("second", -1, Twins::few, NO_THREE, (x, n) -> x.tells(1, 1, n));
        says("promise 5", "BAD: one THING twice.");
        each("twice", -2, Twins::few, new int[] {0, 1, 2}, (x, n) -> x.tells(2, n, n));
        says("promise 5", "NONE: person, things; BAD: one THING twice.");
        each("person ahead of twice", -1, Twins::few, NO_THREE, (x, n) -> x.tells(n, 1, 1));
        each("things ahead of twice", -1, Twins::few, NO_THREE, (x, n) -> x.tells(0, n, n));
    }

    private static void of() {
        says("promise 6", "10 and p the THING told at PLACE p, 20 and t LIKELY, 30 and t LONG of THING t.");
        TwoTrue x = with(GUEST, GUEST);
        x.person(SHARP, 9);
        x.lie(2, 2);
        x.tells(2, 2, 0);
        likely(x, 2, 11, 22, 33);
        lengths(x, 2, 7, 8, 9);
        x.lie(0, 1);
        x.round(2);
        int[] dues = new int[40];
        Arrays.fill(dues, -1);
        dues[0] = SHARP;
        dues[1] = 9;
        // The lie at place 0 is doubted by 66, thing 0 at place 1 by 88: both others are taken in.
        dues[2] = 2;
        dues[3] = 2;
        dues[10] = 2;
        dues[11] = 0;
        dues[12] = 1;
        for (int t = 0; t < 3; t++) {
            dues[20 + t] = 11 * t + 11;
            dues[30 + t] = 7 + t;
        }
        for (int what = 0; what < 40; what++) {
            due("what " + what, x.of(2, what), dues[what]);
        }
        says("promise 6", "NONE.");
        int[] whats = {-1, 4, 9, 13, 19, 23, 29, 33, 40, 100, MIN, MIN + 10, MIN + 20, MIN + 30, MAX};
        each("what", -1, Twins::few, whats, (y, n) -> y.of(0, n));
        each("person", -1, PromiseEdgeTest::fresh, new int[] {-1, 0, 5}, (y, n) -> y.of(n, 0));
        each("person", -1, Twins::few, NO_THREE, (y, n) -> y.of(n, 2));
        each("person", -1, Twins::full, NO_SIX, (y, n) -> y.of(n, 10));
    }

    private static void row() {
        says("promise 7", "The ROW of a TOLD one becomes a PLACE for ROUNDS modulo 4 being part: what it was.");
        for (int part = 0; part < 4; part++) {
            TwoTrue x = with(GUEST, TOLD);
            due("at first", x.row(1, part, 2), 0);
            due("the last place", x.row(1, part, 1), 2);
            due("then", x.row(1, part, 0), 1);
            due("the first place", x.row(1, part, 2), 0);
            for (int other = 0; other < 4; other++) {
                due("part " + other, x.row(1, other, 0), other == part ? 2 : 0);
            }
        }
        says("promise 7", "NONE: person, part");
        each("person", -1, PromiseEdgeTest::fresh, new int[] {-1, 0, 5}, (x, n) -> x.row(n, 0, 0));
        each("person", -1, Twins::few, NO_THREE, (x, n) -> x.row(n, 0, 2));
        each("person", -1, Twins::full, NO_SIX, (x, n) -> x.row(n, 0, 2));
        each("part", -1, Twins::few, NO_FOUR, (x, n) -> x.row(0, n, 2));
        says("promise 7", "BAD: n (0 .. 2)");
        for (int part = 0; part < 4; part++) {
            int at = part;
            each("n", -2, Twins::few, NO_THREE, (x, n) -> x.row(0, at, n));
        }
        says("promise 7", "STATE: another KIND.");
        each("one of kind", -3, PromiseEdgeTest::six, new int[] {0, 1, 2, 3, 4, 5}, (x, n) -> x.row(n, 3, 2));
        each("person", -3, Twins::few, new int[] {1, 2}, (x, n) -> x.row(n, 0, 0));
        says("promise 7", "NONE: person, part; BAD: n (0 .. 2); STATE: another KIND.");
        each("person ahead of n", -1, Twins::few, NO_THREE, (x, n) -> x.row(n, 0, 3));
        each("part ahead of n", -1, Twins::few, NO_FOUR, (x, n) -> x.row(0, n, 3));
        each("part ahead of another kind", -1, Twins::few, NO_FOUR, (x, n) -> x.row(1, n, 0));
        each("part ahead of both", -1, Twins::few, NO_FOUR, (x, n) -> x.row(1, n, -1));
        each("n ahead of another kind", -2, Twins::few, NO_THREE, (x, n) -> x.row(1, 0, n));
    }

    private static void feed() {
        says("promise 8", "A sign (0 .. 127) comes behind THE TEXT's: how many it has.");
        for (int sign = 0; sign < 128; sign++) {
            TwoTrue x = new TwoTrue();
            due("sign " + sign, x.feed(sign), 1);
            due("bytes", x.count(3), 1);
        }
        TwoTrue x = new TwoTrue();
        for (int n = 1; n <= 100; n++) {
            due("how many", x.feed(n % 2 == 0 ? 127 : 0), n);
        }
        says("promise 8", "BAD");
        each("sign", -2, PromiseEdgeTest::fresh, new int[] {-1, 128, 256 + 'h', MIN, MAX}, (y, n) -> y.feed(n));
        each("sign", -2, Twins::few, new int[] {-1, 128, 256, MIN, MAX}, (y, n) -> y.feed(n));
        says("promise 8", "FULL.");
        due("a 101st", x.feed('h'), -4);
        due("bytes", x.count(3), 100);
        each("sign", -4, Twins::full, new int[] {0, 127, 'h'}, (y, n) -> y.feed(n));
        says("promise 8", "BAD; FULL.");
        each("sign", -2, Twins::full, new int[] {-1, 128, MIN, MAX}, (y, n) -> y.feed(n));
        says("promise 8", "comes behind THE TEXT's");
        x = new TwoTrue();
        feed(x, "odd 12 p<9" + "&p<9".repeat(20) + "&p<99".repeat(2));
        due("a hundred", x.count(3), 100);
        due("one too many", x.feed('!'), -4);
        due("no sign", x.feed(128), -2);
        due("as read", x.evening(), 0);
        due("the next text begins anew", x.feed('h'), 1);
    }

    private static void eveningFull() {
        says("promise 9", "THE TEXT, which is empty then, is an EVENING, and holds: its number.");
        TwoTrue x = with(GUEST, GUEST);
        for (int e = 0; e < 6; e++) {
            due("its number", read(x, "hands 3" + e), e);
            due("the text is empty", x.count(3), 0);
            due("it holds", x.told(1), 30 + e);
            due("how many", x.count(1), e + 1);
        }
        says("promise 9", "FULL: there are 6 (THE TEXT stays)");
        Twins.still("evening()", -4, Twins::full, y -> y.evening());
        due("no text", x.evening(), -4);
        due("a whole one", read(x, "hands 1"), -4);
        due("its text stays", x.count(3), 7);
        due("and goes on", x.feed('2'), 8);
        due("again", x.evening(), -4);
        due("its text stays", x.count(3), 8);
        due("the sixth holds", x.told(1), 35);
        due("six", x.count(1), 6);
        says("promise 9", "FULL: there are 6 (THE TEXT stays); -10 less the FAULT");
        due("FULL ahead of a FAULT", read(x, "~"), -4);
        due("its text stays", x.count(3), 9);
        x.image();
        x.undo();
        due("an image is nothing to it", x.evening(), -4);
    }

    private static void eveningFault() {
        says("promise 9", "-10 less the FAULT (the one that held holds).");
        String[] texts = {"", "~", "odd 1 g=", "hands 77;odd 55 p=0;~", "hands 77;"};
        int[] faults = {0, 0, 8, 20, 9};
        for (int i = 0; i < texts.length; i++) {
            String text = texts[i];
            int want = -10 - faults[i];
            due("\"" + text + "\"", read(Twins.calm(), text), want);
            Twins.alike("\"" + text + "\" is nothing", Twins::calm, () -> {
                TwoTrue x = Twins.calm();
                read(x, text);
                return x;
            });
            TwoTrue x = with(GUEST, GUEST);
            due("ahead of any", read(x, text), want);
            due("none holds", x.doubt(0, 1, 0), 49);
            due("none holds", x.told(1), 10);
            due("the text is empty", x.count(3), 0);
            due("it is no evening", x.count(1), 0);
            due("the next one's number", read(x, "odd 2 p=0"), 0);
            due("nothing of it holds", x.told(1), 10);
            due("nothing of it holds", x.doubt(0, 1, 0), 51);
        }
        says("promise 9", "-10 less the FAULT");
        fault(0, "");
        fault(1, "o");
        TwoTrue x = new TwoTrue();
        feed(x, "odd 1 p=0");
        while (x.feed('|') > 0 && x.count(3) < 98) {
            feed(x, "p=0");
        }
        due("bytes", x.count(3), 98);
        feed(x, "p=");
        due("the largest: a hundred bytes that end too early", x.evening(), -110);
    }

    private static void fault(int place, String text) {
        due("a fault at " + place, read(new TwoTrue(), text), -10 - place);
    }

    private static void told() {
        says("promise 10", "What 0 ROUND, 1 hands.");
        TwoTrue x = with(GUEST);
        due("round at first", x.told(0), 0);
        due("hands at first", x.told(1), 10);
        x.round(0);
        read(x, "hands 99");
        due("round", x.told(0), 1);
        due("hands", x.told(1), 99);
        says("promise 10", "NONE.");
        each("what", -1, Twins::few, NO_TWO, (y, n) -> y.told(n));
        each("what", -1, PromiseEdgeTest::fresh, NO_TWO, (y, n) -> y.told(n));
    }

    private static void doubt() {
        says("promise 11", "DOUBT of one about the THING at a PLACE, another one telling.");
        TwoTrue x = six();
        likely(x, 5, 0, 99, 50);
        x.tells(5, 2, 0);
        int[] dues = {49, 99, 0};
        for (int place = 0; place < 3; place++) {
            for (int g = 0; g < 5; g++) {
                due("of " + g + " at " + place, x.doubt(g, 5, place), dues[place]);
            }
        }
        due("of the last of the first", x.doubt(5, 0, 2), 49);
        says("promise 11", "-1001: NONE");
        each("nobody there, person", -1001, PromiseEdgeTest::fresh, new int[] {-1, 0, 5}, (y, n) -> y.doubt(n, 1, 0));
        each("person", -1001, Twins::few, NO_THREE, (y, n) -> y.doubt(n, 0, 0));
        each("teller", -1001, Twins::few, NO_THREE, (y, n) -> y.doubt(0, n, 0));
        each("person", -1001, Twins::full, NO_SIX, (y, n) -> y.doubt(n, 0, 0));
        each("teller", -1001, Twins::full, NO_SIX, (y, n) -> y.doubt(0, n, 0));
        each("place", -1001, Twins::few, NO_THREE, (y, n) -> y.doubt(0, 1, n));
        says("promise 11", "-1002: BAD: one of the PEOPLE.");
        each("both", -1002, Twins::few, new int[] {0, 1, 2}, (y, n) -> y.doubt(n, n, 0));
        each("both", -1002, Twins::full, new int[] {0, 5}, (y, n) -> y.doubt(n, n, 2));
        says("promise 11", "-1001: NONE; -1002: BAD: one of the PEOPLE.");
        each("NONE ahead of BAD, both", -1001, Twins::few, NO_THREE, (y, n) -> y.doubt(n, n, 0));
        each("NONE ahead of BAD, place", -1001, Twins::few, NO_THREE, (y, n) -> y.doubt(1, 1, n));
        says("promise 11", "-1001: NONE; -1002: BAD");
        // A DOUBT may be -1, -2, -3 itself.
        x = with(GUEST, GUEST);
        likely(x, 1, 99, 98, 97);
        read(x, "sure 1 p=0;sure 3 p=1;sure 5 p=2");
        due("-1", x.doubt(0, 1, 0), -1);
        due("-2", x.doubt(0, 1, 1), -2);
        due("-3", x.doubt(0, 1, 2), -3);
    }

    /** As few(), but at ROUND n, which takes more calls than are promised: there is no other way. */
    private static TwoTrue late(int n) {
        TwoTrue x = Twins.few();
        while (x.told(0) < n && x.round(1) >= 0) {
            x.told(0);
        }
        return x;
    }

    private static void round() {
        says("promise 12", "A ROUND: how many are TAKEN IN.");
        TwoTrue x = with(GUEST, GUEST, GUEST, GUEST, GUEST, GUEST);
        due("none", x.round(0), 0);
        x.lie(5, 2);
        due("all five", x.round(5), 5);
        due("alone", with(GUEST).round(0), 0);
        says("promise 12", "NONE: teller");
        each("nobody there, teller", -1, PromiseEdgeTest::fresh, new int[] {-1, 0, 5}, (y, n) -> y.round(n));
        each("teller", -1, Twins::few, NO_THREE, (y, n) -> y.round(n));
        each("teller", -1, Twins::full, NO_SIX, (y, n) -> y.round(n));
        says("promise 12", "STATE: ROUND is 999.");
        x = late(998);
        due("at 998 there is one more", x.round(1) >= 0 ? 1 : 0, 1);
        due("then it is 999", x.told(0), 999);
        due("and no more", x.round(1), -3);
        due("and stays", x.told(0), 999);
        each("teller", -3, () -> late(999), new int[] {0, 1, 2}, (y, n) -> y.round(n));
        says("promise 12", "NONE: teller; STATE: ROUND is 999.");
        each("teller", -1, () -> late(999), NO_THREE, (y, n) -> y.round(n));
    }

    private static void guess() {
        says("promise 13", "GUESS: the PLACE.");
        for (int place = 0; place < 3; place++) {
            TwoTrue x = six();
            likely(x, 5, 99, 99, 99);
            x.thing(5, place, 0, 0);
            due("of the first of the last", x.guess(0, 5), place);
            likely(x, 0, 99, 99, 99);
            x.thing(0, place, 0, 0);
            due("of the last of the first", x.guess(5, 0), place);
        }
        says("promise 13", "NONE");
        each("nobody there, person", -1, PromiseEdgeTest::fresh, new int[] {-1, 0, 5}, (x, n) -> x.guess(n, 1));
        each("person", -1, Twins::few, NO_THREE, (x, n) -> x.guess(n, 0));
        each("teller", -1, Twins::few, NO_THREE, (x, n) -> x.guess(0, n));
        each("person", -1, Twins::full, NO_SIX, (x, n) -> x.guess(n, 0));
        each("teller", -1, Twins::full, NO_SIX, (x, n) -> x.guess(0, n));
        says("promise 13", "BAD: one of the PEOPLE.");
        each("both", -2, Twins::few, new int[] {0, 1, 2}, (x, n) -> x.guess(n, n));
        each("both", -2, Twins::full, new int[] {0, 5}, (x, n) -> x.guess(n, n));
        says("promise 13", "NONE; BAD: one of the PEOPLE.");
        each("both", -1, Twins::few, NO_THREE, (x, n) -> x.guess(n, n));
    }

    private static void hands() {
        says("promise 14", "What 0 .. 2 HANDS of that PLACE, 3 how many are TAKEN IN.");
        for (int place = 0; place < 3; place++) {
            TwoTrue x = with(GUEST, GUEST, GUEST, GUEST, GUEST, GUEST);
            likely(x, 5, 99, 99, 99);
            x.thing(5, place, 0, 0);
            for (int what = 0; what < 3; what++) {
                due("hands at " + what, x.hands(5, what), what == place ? 5 : 0);
            }
            due("taken in", x.hands(5, 3), place == 0 ? 0 : 5);
        }
        TwoTrue alone = with(GUEST);
        for (int what = 0; what < 4; what++) {
            due("alone", alone.hands(0, what), 0);
        }
        says("promise 14", "NONE.");
        each("nobody there, teller", -1, PromiseEdgeTest::fresh, new int[] {-1, 0, 5}, (x, n) -> x.hands(n, 0));
        each("teller", -1, Twins::few, NO_THREE, (x, n) -> x.hands(n, 3));
        each("teller", -1, Twins::full, NO_SIX, (x, n) -> x.hands(n, 0));
        each("what", -1, Twins::few, NO_FOUR, (x, n) -> x.hands(0, n));
    }

    private static void order() {
        says("promise 15", "ORDER: what 0 how many, 1 and k the k-th THING (k 0 .. 2).");
        TwoTrue x = with(GUEST, GUEST, GUEST, GUEST, GUEST, GUEST);
        int[] dues = {5, 1, 0, 2};
        for (int what = 0; what < 4; what++) {
            due("what " + what, x.order(5, what), dues[what]);
        }
        says("promise 15", "NONE.");
        each("nobody there, teller", -1, PromiseEdgeTest::fresh, new int[] {-1, 0, 5}, (y, n) -> y.order(n, 0));
        each("teller", -1, Twins::few, NO_THREE, (y, n) -> y.order(n, 0));
        each("teller", -1, Twins::full, NO_SIX, (y, n) -> y.order(n, 3));
        each("what", -1, Twins::few, NO_FOUR, (y, n) -> y.order(2, n));
    }

    private static void likely() {
        says("promise 16", "BEST LIKELY: what 0 that, 1 how many.");
        TwoTrue x = with(GUEST, GUEST, GUEST, GUEST, GUEST, GUEST);
        likely(x, 5, 50, 99, 98);
        due("the largest: 99", x.likely(5, 0), 99);
        due("how many", x.likely(5, 1), 5);
        x.lie(5, 1);
        due("told second behind 50: 54 is the least that is not guessed", x.likely(5, 0), 54);
        likely(x, 5, 0, 50, 50);
        due("the smallest", x.likely(5, 0), 0);
        due("how many", x.likely(5, 1), 5);
        says("promise 16", "NONE.");
        each("nobody there, teller", -1, PromiseEdgeTest::fresh, new int[] {-1, 0, 5}, (y, n) -> y.likely(n, 0));
        each("teller", -1, Twins::few, NO_THREE, (y, n) -> y.likely(n, 0));
        each("teller", -1, Twins::full, NO_SIX, (y, n) -> y.likely(n, 1));
        each("what", -1, Twins::few, NO_TWO, (y, n) -> y.likely(2, n));
    }

    private static void best() {
        says("promise 17", "BEST LIE: what 0 which THING, 1 how many.");
        TwoTrue x = with(GUEST, GUEST, GUEST, GUEST, GUEST, GUEST);
        due("which", x.best(5, 0), 1);
        due("how many", x.best(5, 1), 5);
        x = with(GUEST, GUEST, SHARP);
        x.tells(0, 0, 2);
        due("the last", x.best(0, 0), 2);
        x.tells(0, 1, 0);
        due("the first", x.best(0, 0), 0);
        due("how many", x.best(0, 1), 2);
        says("promise 17", "NONE.");
        each("nobody there, teller", -1, PromiseEdgeTest::fresh, new int[] {-1, 0, 5}, (y, n) -> y.best(n, 0));
        each("teller", -1, Twins::few, NO_THREE, (y, n) -> y.best(n, 0));
        each("teller", -1, Twins::full, NO_SIX, (y, n) -> y.best(n, 1));
        each("what", -1, Twins::few, NO_TWO, (y, n) -> y.best(2, n));
    }

    private static void first() {
        says("promise 18", "FIRST.");
        TwoTrue x = with(SHEEP, SHEEP, SHEEP, SHEEP, GUEST, GUEST);
        due("four at the last place", x.first(4, 5, 2), 4);
        due("none at the first place", x.first(4, 5, 0), 0);
        due("three but itself", x.first(3, 5, 1), 3);
        due("of the last of the first", x.first(5, 0, 1), 3);
        due("the guest among others stays", x.first(0, 5, 1), 3);
        due("no others", with(GUEST, GUEST).first(1, 0, 2), 0);
        says("promise 18", "NONE");
        each("nobody there, person", -1, PromiseEdgeTest::fresh, new int[] {-1, 0, 5}, (y, n) -> y.first(n, 1, 0));
        each("person", -1, Twins::few, NO_THREE, (y, n) -> y.first(n, 0, 0));
        each("teller", -1, Twins::few, NO_THREE, (y, n) -> y.first(0, n, 0));
        each("person", -1, Twins::full, NO_SIX, (y, n) -> y.first(n, 0, 2));
        each("teller", -1, Twins::full, NO_SIX, (y, n) -> y.first(0, n, 2));
        each("place", -1, Twins::few, NO_THREE, (y, n) -> y.first(0, 1, n));
        says("promise 18", "BAD: one of the PEOPLE.");
        each("both", -2, Twins::few, new int[] {0, 1, 2}, (y, n) -> y.first(n, n, 0));
        each("both", -2, Twins::full, new int[] {0, 5}, (y, n) -> y.first(n, n, 2));
        says("promise 18", "NONE; BAD: one of the PEOPLE.");
        each("both", -1, Twins::few, NO_THREE, (y, n) -> y.first(n, n, 0));
        each("place", -1, Twins::few, NO_THREE, (y, n) -> y.first(2, 2, n));
    }

    private static TwoTrue five() {
        TwoTrue x = with(SHEEP, SHARP, GUEST, READER, FOLLOWER);
        x.lie(2, 2);
        return x;
    }

    private static void line() {
        says("promise 19", "LINE: k -1 how many, else the k-th (-5: there are fewer).");
        TwoTrue x = five();
        // 1 (SHARP) guesses the LIE at place 2, and 0 behind it; 3 and 4 (49 to 49 + 10 from one hand on):
        // 3 is a READER and never does; 4 does, if more hands are at 2 than at 0.
        int[] row = {1, 0, 3, 4};
        due("how many", x.line(2, -1), 1);
        for (int k = 0; k < 4; k++) {
            due("the " + k + "-th", x.line(2, k), row[k]);
        }
        for (int many = 1; many <= 5; many++) {
            TwoTrue y = new TwoTrue();
            for (int p = 0; p < many; p++) {
                y.person(GUEST, 0);
            }
            due(many + ": how many", y.line(0, -1), 0);
            for (int k = 0; k < 4; k++) {
                due(many + ": the " + k + "-th", y.line(0, k), k < many - 1 ? k + 1 : -5);
            }
        }
        each("there are fewer, k", -5, Twins::few, new int[] {2, 3}, (y, n) -> y.line(0, n));
        each("alone, k", -5, () -> with(GUEST), new int[] {0, 1, 2, 3}, (y, n) -> y.line(0, n));
        says("promise 19", "NONE: teller, k (-1 .. 3)");
        int[] noK = {-2, 4, MIN, MAX};
        each("nobody there, teller", -1, PromiseEdgeTest::fresh, new int[] {-1, 0, 5}, (y, n) -> y.line(n, -1));
        each("teller", -1, Twins::few, NO_THREE, (y, n) -> y.line(n, 0));
        each("k", -1, PromiseEdgeTest::five, noK, (y, n) -> y.line(2, n));
        each("k, there being fewer", -1, Twins::few, noK, (y, n) -> y.line(0, n));
        each("k, alone", -1, () -> with(GUEST), noK, (y, n) -> y.line(0, n));
        says("promise 19", "-9.");
        each("of six, k", -9, Twins::full, new int[] {-1, 0, 1, 2, 3}, (y, n) -> y.line(5, n));
        each("of six, k", -9, PromiseEdgeTest::six, new int[] {-1, 3}, (y, n) -> y.line(0, n));
        says("promise 19", "NONE: teller, k (-1 .. 3); -9.");
        each("of six, teller", -1, Twins::full, NO_SIX, (y, n) -> y.line(n, -1));
        each("of six, k", -1, Twins::full, noK, (y, n) -> y.line(0, n));
    }

    private static void worth() {
        says("promise 20", "WORTH.");
        due("a FRIEND alone", with(FRIEND).worth(0), 0);
        due("a TOLD one alone", with(TOLD).worth(0), 0);
        for (int v = 0; v <= 9; v++) {
            TwoTrue x = with(GUEST, GUEST, GUEST, GUEST, GUEST);
            x.person(FRIEND, v);
            for (int p = 0; p < 5; p++) {
                x.lie(p, 2);
            }
            // v modulo 6: 0 and 6 are of 0 (by 0 and 30), 5 is its own number.
            due("v " + v, x.worth(5), v == 0 || v == 5 ? 0 : 1);
        }
        says("promise 20", "-1001: NONE");
        each("nobody there, person", -1001, PromiseEdgeTest::fresh, new int[] {-1, 0, 5}, (y, n) -> y.worth(n));
        each("person", -1001, Twins::few, NO_THREE, (y, n) -> y.worth(n));
        each("person", -1001, Twins::full, NO_SIX, (y, n) -> y.worth(n));
        says("promise 20", "-1003: STATE: another KIND.");
        int[] others = {0, 1, 2, 4, 5};
        each("one of kind", -1003, PromiseEdgeTest::six, others, (y, n) -> y.worth(n));
        due("one of kind 3 is none", six().worth(3), 0);
        each("person", -1003, Twins::full, new int[] {1, 2, 4, 5}, (y, n) -> y.worth(n));
        says("promise 20", "-1001: NONE; -1003: STATE");
        // WORTH may be -1 to -5 itself.
        TwoTrue x = with(TOLD, GUEST, GUEST, GUEST);
        x.row(0, 0, 1);
        due("-3", x.worth(0), -3);
        x.person(GUEST, 0);
        due("-4", x.worth(0), -4);
        x.person(GUEST, 0);
        due("-5, the least", x.worth(0), -5);
        x.lie(1, 1);
        x.lie(2, 2);
        due("of 1 more, of 2 no more, of three less", x.worth(0), -2);
    }

    private static void see() {
        says("promise 21", "HANDS of a PLACE are SEEN as n (0 .. 5): what they were (0 at first).");
        for (int place = 0; place < 3; place++) {
            TwoTrue x = new TwoTrue();
            due("at first", x.see(place, 5), 0);
            due("the most", x.see(place, 0), 5);
            due("the least", x.see(place, 3), 0);
            for (int other = 0; other < 3; other++) {
                due("at " + other, x.see(other, 0), other == place ? 3 : 0);
            }
        }
        says("promise 21", "NONE");
        each("place", -1, PromiseEdgeTest::fresh, NO_THREE, (x, n) -> x.see(n, 0));
        each("place", -1, Twins::few, NO_THREE, (x, n) -> x.see(n, 5));
        says("promise 21", "BAD.");
        for (int place = 0; place < 3; place++) {
            int at = place;
            each("n", -2, Twins::few, new int[] {-1, 6, MIN, MAX}, (x, n) -> x.see(at, n));
        }
        says("promise 21", "NONE; BAD.");
        each("place", -1, Twins::few, NO_THREE, (x, n) -> x.see(n, 6));
    }

    private static void lies() {
        says("promise 22", "LIES, as bits.");
        TwoTrue x = with(GUEST);
        due("alone, none seen: all three", x.lies(0), 7);
        x.see(2, 5);
        due("alone, five seen: none", x.lies(0), 0);
        for (int lie = 0; lie < 3; lie++) {
            x = new TwoTrue();
            x.person(GUEST, 0);
            x.person(FRIEND, 8);
            x.see(lie, 1);
            due("bit " + lie, x.lies(0), 1 << lie);
        }
        says("promise 22", "NONE.");
        each("nobody there, teller", -1, PromiseEdgeTest::fresh, new int[] {-1, 0, 5}, (y, n) -> y.lies(n));
        each("teller", -1, Twins::few, NO_THREE, (y, n) -> y.lies(n));
        each("teller", -1, Twins::full, NO_SIX, (y, n) -> y.lies(n));
    }

    private static void ends() {
        says("promise 23", "END: what 0 POINTS of one, 1 who has most.");
        TwoTrue x = with(GUEST, GUEST, GUEST, GUEST, GUEST, GUEST);
        x.lie(5, 1);
        due("no rounds", x.ends(5, 0, 0), 0);
        due("no rounds: the first", x.ends(5, 0, 1), 0);
        due("five rounds: the last has four fewer", x.ends(5, 5, 0), 5);
        due("five rounds: none told by the last", x.ends(5, 5, 1), 5);
        due("six rounds", x.ends(5, 6, 0), 10);
        due("thirty rounds", x.ends(5, 30, 0), 50);
        due("thirty rounds", x.ends(0, 30, 0), 20);
        due("thirty rounds: the last", x.ends(0, 30, 1), 5);
        says("promise 23", "NONE: person, what");
        each("nobody there, person", -1, PromiseEdgeTest::fresh, new int[] {-1, 0, 5}, (y, n) -> y.ends(n, 1, 1));
        each("person", -1, Twins::few, NO_THREE, (y, n) -> y.ends(n, 0, 0));
        each("person", -1, Twins::full, NO_SIX, (y, n) -> y.ends(n, 30, 1));
        each("what", -1, Twins::few, NO_TWO, (y, n) -> y.ends(0, 30, n));
        says("promise 23", "BAD: n.");
        int[] noN = {-1, 31, MIN, MAX};
        each("n", -2, Twins::few, noN, (y, n) -> y.ends(0, n, 0));
        each("n", -2, Twins::full, noN, (y, n) -> y.ends(5, n, 1));
        says("promise 23", "NONE: person, what; BAD: n.");
        each("person ahead of n", -1, Twins::few, NO_THREE, (y, n) -> y.ends(n, 31, 0));
        each("what ahead of n", -1, Twins::few, NO_TWO, (y, n) -> y.ends(0, -1, n));
    }

    private static void odds() {
        says("promise 24", "ODDS; part 0 above, 1 below the line.");
        int[][] rows = {{0, 0, 1}, {1, 1, 3}, {2, 2, 3}, {3, 1, 1}};
        int[][] likelies = {{40, 50, 50, 0}, {60, 50, 50, 1}, {60, 50, 50, 0}, {50, 50, 50, 1}};
        for (int i = 0; i < 4; i++) {
            TwoTrue x = with(GUEST, GUEST);
            likely(x, 1, likelies[i][0], likelies[i][1], likelies[i][2]);
            x.lie(1, likelies[i][3]);
            due(rows[i][0] + " of 3, above", x.odds(1, 0), rows[i][1]);
            due(rows[i][0] + " of 3, below", x.odds(1, 1), rows[i][2]);
        }
        says("promise 24", "NO.");
        long no = TwoTrue.NO;
        each("nobody there, teller", no, PromiseEdgeTest::fresh, new int[] {-1, 0, 5}, (x, n) -> x.odds(n, 0));
        each("teller", no, Twins::few, NO_THREE, (x, n) -> x.odds(n, 0));
        each("teller", no, Twins::full, NO_SIX, (x, n) -> x.odds(n, 1));
        each("part", no, Twins::few, NO_TWO, (x, n) -> x.odds(0, n));
    }

    private static void mean() {
        says("promise 25", "MEAN; part likewise.");
        due("alone, above", with(GUEST).mean(0), 0);
        due("alone, below", with(GUEST).mean(1), 1);
        TwoTrue x = with(GUEST, GUEST, GUEST, GUEST, GUEST, GUEST);
        due("none, above", x.mean(0), 0);
        due("none, below", x.mean(1), 1);
        x.lie(5, 1);
        due("5 of 6, above", x.mean(0), 5);
        due("5 of 6, below", x.mean(1), 6);
        for (int p = 0; p < 5; p++) {
            x.lie(p, 2);
        }
        due("30 of 6, above", x.mean(0), 5);
        due("30 of 6, below", x.mean(1), 1);
        says("promise 25", "NO.");
        each("nobody, part", TwoTrue.NO, PromiseEdgeTest::fresh, new int[] {0, 1, -1, 2}, (y, n) -> y.mean(n));
        each("part", TwoTrue.NO, Twins::few, NO_TWO, (y, n) -> y.mean(n));
        each("part", TwoTrue.NO, Twins::full, NO_TWO, (y, n) -> y.mean(n));
    }

    private static void book() {
        says("promise 26", "A row comes to the BOOK: how many there are");
        TwoTrue x = with(GUEST, GUEST, GUEST, GUEST, GUEST, GUEST);
        for (int n = 1; n <= 12; n++) {
            due("how many", x.book(n % 2 * 5, 5 - n % 2 * 5, n % 3), n);
            due("how many", x.count(2), n);
        }
        says("promise 26", "NONE");
        each("nobody there, person", -1, PromiseEdgeTest::fresh, new int[] {-1, 0, 5}, (y, n) -> y.book(0, n, 0));
        each("teller", -1, Twins::few, new int[] {-2, 3, MIN, MAX}, (y, n) -> y.book(n, 0, 0));
        each("person", -1, Twins::few, NO_THREE, (y, n) -> y.book(0, n, 0));
        each("place", -1, Twins::few, NO_THREE, (y, n) -> y.book(0, 1, n));
        says("promise 26", "BAD: one of the PEOPLE");
        each("both", -2, Twins::few, new int[] {0, 1, 2}, (y, n) -> y.book(n, n, 0));
        says("promise 26", "FULL: 12.");
        due("a thirteenth", x.book(0, 1, 0), -4);
        due("twelve", x.count(2), 12);
        each("place", -4, Twins::full, new int[] {0, 1, 2}, (y, n) -> y.book(0, 5, n));
        says("promise 26", "NONE; BAD: one of the PEOPLE; FULL: 12.");
        each("NONE ahead of BAD, both", -1, Twins::few, new int[] {-2, 3, MIN, MAX}, (y, n) -> y.book(n, n, 0));
        each("NONE ahead of BAD, place", -1, Twins::few, NO_THREE, (y, n) -> y.book(1, 1, n));
        each("NONE ahead of FULL, teller", -1, Twins::full, new int[] {-2, 6, MIN, MAX}, (y, n) -> y.book(n, 0, 0));
        each("NONE ahead of FULL, person", -1, Twins::full, NO_SIX, (y, n) -> y.book(0, n, 0));
        each("NONE ahead of FULL, place", -1, Twins::full, NO_THREE, (y, n) -> y.book(0, 1, n));
        each("NONE ahead of both, place", -1, Twins::full, NO_THREE, (y, n) -> y.book(1, 1, n));
        each("BAD ahead of FULL, both", -2, Twins::full, new int[] {0, 5}, (y, n) -> y.book(n, n, 2));
    }

    private static void bookEmptied() {
        says("promise 26", "(teller -1: it is empty then, 0, whatever the others are)");
        for (int other : new int[] {-1, 0, 1, 2, 3, 5, 6, MIN, MAX}) {
            TwoTrue x = Twins.full();
            due("of twelve, person " + other, x.book(-1, other, 0), 0);
            due("it is empty", x.count(2), 0);
            due("none is otherwise", x.looked(), -5);
            x = Twins.few();
            due("of two, place " + other, x.book(-1, 0, other), 0);
            due("it is empty", x.count(2), 0);
            due("the first again", x.book(0, 1, 0), 1);
            due("nobody there", new TwoTrue().book(-1, other, other), 0);
            Twins.alike("an empty one, emptied by " + other, () -> {
                TwoTrue y = Twins.few();
                y.book(-1, 0, 1);
                return y;
            }, () -> {
                TwoTrue y = Twins.few();
                y.book(-1, 0, 1);
                y.book(-1, other, other);
                return y;
            });
        }
    }

    private static void looked() {
        says("promise 27", "LOOKED at; -5.");
        TwoTrue x = with(GUEST, GUEST);
        due("empty", x.looked(), -5);
        due("nobody there", new TwoTrue().looked(), -5);
        x.book(0, 1, 1);
        due("the first of one", x.looked(), 0);
        x.book(-1, 0, 0);
        for (int row = 0; row < 11; row++) {
            x.book(1, 0, 0);
        }
        due("none of eleven", x.looked(), -5);
        x.book(1, 0, 2);
        due("the last of twelve", x.looked(), 11);
        Twins.still("looked", 11, Twins::full, y -> y.looked());
        Twins.still("looked", -5, Twins::few, y -> y.looked());
    }

    private static void judge() {
        says("promise 28", "JUDGED from place i of a TAPE on.");
        TwoTrue x = with(GUEST, GUEST, GUEST, GUEST, GUEST, GUEST);
        for (int tape = 0; tape < 6; tape += 5) {
            x.tape(tape, 1, 60);
            due("from the first on", x.judge(tape, 0), -5);
            due("from the last that is enough on", x.judge(tape, 54), -5);
            for (int i = 55; i <= 60; i++) {
                due("from " + i + " on", x.judge(tape, i), 160 - i);
            }
            for (int i : new int[] {-1, 61, MIN, MIN + 60, MAX, MAX - 5}) {
                due("from " + i + " on", x.judge(tape, i), 100);
            }
        }
        says("promise 28", "NONE: tape");
        each("tape", -1, PromiseEdgeTest::fresh, NO_SIX, (y, n) -> y.judge(n, 0));
        each("tape", -1, Twins::few, NO_SIX, (y, n) -> y.judge(n, 0));
        each("tape, place below 0", -1, Twins::few, NO_SIX, (y, n) -> y.judge(n, -1));
        says("promise 28", "CAST: it is no row of shorts.");
        each("tape", -12, Twins::few, new int[] {0, 2, 3, 4}, (y, n) -> y.judge(n, 0));
        each("a place below 0, tape", -12, Twins::few, new int[] {0, 2, 3, 4}, (y, n) -> y.judge(n, -1));
        each("a place beyond, tape", -12, Twins::full, new int[] {0, 2, 3, 4, 5}, (y, n) -> y.judge(n, 61));
        for (int sort = 0; sort < 5; sort++) {
            TwoTrue nobody = new TwoTrue();
            nobody.tape(0, sort, 1);
            due("nobody there, sort " + sort, nobody.judge(0, 0), sort == 1 ? -5 : -12);
            nobody.tape(0, sort, 0);
            due("nobody there, no items, sort " + sort, nobody.judge(0, 0), sort == 1 ? -5 : -12);
        }
        each("one that holds nothing is none of another sort, from", 100, Twins::few, new int[] {0, -1, 60, MIN, MAX},
                (y, n) -> y.judge(5, n));
    }

    private static void image() {
        says("promise 29", "THE IMAGE is taken: how many PEOPLE there are.");
        TwoTrue x = new TwoTrue();
        for (int many = 0; many <= 6; many++) {
            due("how many", x.image(), many);
            due("how many stay", x.count(0), many);
            due("undone at once", x.undo(), many);
            x.person(GUEST, 0);
        }
        Twins.alike("taken twice", () -> {
            TwoTrue y = Twins.few();
            y.image();
            return y;
        }, () -> {
            TwoTrue y = Twins.few();
            y.image();
            y.image();
            y.undo();
            return y;
        });
    }

    private static void undo() {
        says("promise 30", "All is as THE IMAGE: how many PEOPLE.");
        TwoTrue x = new TwoTrue();
        due("of nobody", x.image(), 0);
        for (int p = 0; p < 6; p++) {
            x.person(TOLD, 9);
        }
        due("nobody again", x.undo(), 0);
        due("nobody", x.of(0, 0), -1);
        for (int p = 0; p < 6; p++) {
            due("six again", x.person(GUEST, 0), p);
        }
        due("six", x.image(), 6);
        due("six", x.undo(), 6);
        due("six", x.undo(), 6);
        Twins.alike("who comes behind an undo() is as at first", () -> {
            TwoTrue y = with(GUEST);
            y.image();
            y.person(TOLD, 3);
            return y;
        }, () -> {
            TwoTrue y = with(GUEST);
            y.image();
            y.person(TOLD, 9);
            likely(y, 1, 1, 2, 3);
            lengths(y, 1, 1, 2, 3);
            y.lie(1, 2);
            y.tells(1, 2, 0);
            for (int part = 0; part < 4; part++) {
                y.row(1, part, 2);
            }
            y.round(0);
            y.round(1);
            y.undo();
            y.person(TOLD, 3);
            return y;
        });
        says("promise 30", "STATE: there is none.");
        Twins.still("undo", -3, PromiseEdgeTest::fresh, y -> y.undo());
        Twins.still("undo", -3, PromiseEdgeTest::six, y -> y.undo());
        Twins.still("undo", -3, () -> {
            TwoTrue y = with(GUEST, TOLD);
            y.row(1, 0, 1);
            y.see(1, 1);
            y.book(0, 1, 1);
            y.round(1);
            read(y, "hands 5");
            y.feed('h');
            y.act(1, 2, 3);
            return y;
        }, y -> y.undo());
    }

    private static void act() {
        says("promise 31", "An ACT (0 doubts, 1 guesses, 2 tells) of one with x.");
        TwoTrue x = six();
        due("the first doubts", x.act(0, 0, 7), 7);
        due("the first tells", x.act(0, 2, 7), 14);
        due("the last doubts", x.act(5, 0, 7), 26);
        due("the last tells: 6 + 5, twice", x.act(5, 2, 7), 22);
        for (int act = 0; act < 3; act++) {
            int a = act;
            Twins.alike("it changes THE TRACE alone", () -> {
                TwoTrue y = Twins.calm();
                y.act(3, 0, 0);
                return y;
            }, () -> {
                TwoTrue y = Twins.calm();
                y.act(1, a, MAX);
                y.act(3, 0, 0);
                return y;
            });
        }
        says("promise 31", "0, and no TRACE then: no such one, act.");
        int[][] none = {{-1, 0}, {3, 0}, {MIN, 2}, {MAX, 1}, {0, -1}, {0, 3}, {2, MIN}, {2, MAX}, {3, 3}, {-1, -1}};
        for (int[] no : none) {
            String call = "act(" + no[0] + ", " + no[1] + ", 9)";
            TwoTrue y = Twins.few();
            due("bodies ahead of it", y.count(4), 6);
            due(call, y.act(no[0], no[1], 9), 0);
            due("no trace", y.trace(0), -1);
            due("no trace", y.trace(5), -1);
            due("no bodies", y.count(4), 0);
            Twins.alike(call + " changes no more", () -> {
                TwoTrue z = Twins.calm();
                feed(z, "odd 30 p=1&!g=2;hands 5");
                return z;
            }, () -> {
                TwoTrue z = Twins.few();
                z.act(no[0], no[1], 9);
                return z;
            });
            due("the next one is as ever", y.act(0, 0, 1), 1 ^ 4);
            due("the next one's trace", y.trace(0), 71);
            due("the next one's bodies", y.count(4), 2);
        }
        due("nobody there", new TwoTrue().act(0, 0, 5), 0);
    }

    private static void trace() {
        says("promise 32", "THE TRACE's i-th body.");
        TwoTrue x = with(TOLD);
        x.act(0, 2, 0);
        due("the first", x.trace(0), 40);
        due("the last of twelve", x.trace(11), 10);
        due("the last but one", x.trace(10), 10);
        due("the last but two", x.trace(9), 71);
        says("promise 32", "NONE.");
        due("none is the 12th", x.trace(12), -1);
        due("none is the 19th", x.trace(19), -1);
        due("none is the 20th", x.trace(20), -1);
        each("i", -1, PromiseEdgeTest::fresh, new int[] {-1, 0, 19, 20, MIN, MAX}, (y, n) -> y.trace(n));
        each("i", -1, Twins::few, new int[] {-1, 6, 19, 20, MIN, MAX}, (y, n) -> y.trace(n));
        x.act(0, 0, 0);
        due("of the latest act alone", x.trace(1), 10);
        due("of the latest act alone", x.trace(2), -1);
        due("of the latest act alone", x.trace(11), -1);
    }

    private static void taken() {
        says("promise 33", "One of the PEOPLE taken for one of KIND k (0 .. 6), or one under that: the KIND it is of "
                + "(not k).");
        for (int p = 0; p < 6; p++) {
            int one = p;
            int kind = 6 - p;
            Twins.still("for a guest", kind, Twins::full, x -> x.taken(one, 0));
            Twins.still("for its own kind", kind, Twins::full, x -> x.taken(one, kind));
        }
        due("a SHARP one for a READER", with(SHARP).taken(0, READER), SHARP);
        due("a SHEEP for a FOLLOWER", with(SHEEP).taken(0, FOLLOWER), SHEEP);
        due("a TOLD one for a FRIEND", with(TOLD).taken(0, FRIEND), TOLD);
        due("a GUEST for one", with(GUEST).taken(0, GUEST), GUEST);
        says("promise 33", "BAD: k");
        each("k", -2, Twins::few, NO_SEVEN, (x, n) -> x.taken(0, n));
        each("k", -2, PromiseEdgeTest::fresh, NO_SEVEN, (x, n) -> x.taken(0, n));
        says("promise 33", "NOTHING: no such one");
        each("nobody there, person", -11, PromiseEdgeTest::fresh, new int[] {-1, 0, 5}, (x, n) -> x.taken(n, 0));
        each("person", -11, Twins::few, NO_THREE, (x, n) -> x.taken(n, 0));
        each("person", -11, Twins::full, NO_SIX, (x, n) -> x.taken(n, 6));
        says("promise 33", "CAST.");
        each("a GUEST for", -12, PromiseEdgeTest::six, new int[] {1, 2, 3, 4, 5, 6}, (x, n) -> x.taken(0, n));
        each("a READER for", -12, PromiseEdgeTest::six, new int[] {2, 3, 4, 5, 6}, (x, n) -> x.taken(1, n));
        each("a FOLLOWER for", -12, PromiseEdgeTest::six, new int[] {1, 3, 4, 5, 6}, (x, n) -> x.taken(2, n));
        each("a FRIEND for", -12, PromiseEdgeTest::six, new int[] {1, 2, 4, 5, 6}, (x, n) -> x.taken(3, n));
        each("a SHARP one for", -12, PromiseEdgeTest::six, new int[] {2, 3, 5, 6}, (x, n) -> x.taken(4, n));
        each("a SHEEP for", -12, PromiseEdgeTest::six, new int[] {1, 3, 4, 6}, (x, n) -> x.taken(5, n));
        each("a TOLD one for", -12, Twins::few, new int[] {1, 2, 4, 5}, (x, n) -> x.taken(0, n));
        says("promise 33", "BAD: k; NOTHING: no such one; CAST.");
        each("BAD ahead of NOTHING, person", -2, Twins::few, NO_THREE, (x, n) -> x.taken(n, 7));
        each("BAD ahead of NOTHING, k", -2, Twins::few, NO_SEVEN, (x, n) -> x.taken(3, n));
    }

    private static void count() {
        says("promise 34", "How many: 0 PEOPLE, 1 EVENINGS, 2 rows of the BOOK, 3 bytes of THE TEXT, 4 bodies that ran "
                + "in the latest act() (all, kept or not).");
        int[] few = {3, 2, 2, 23, 6};
        int[] full = {6, 6, 12, 100, 12};
        for (int what = 0; what < 5; what++) {
            int w = what;
            due("of a new one, " + what, new TwoTrue().count(what), 0);
            Twins.still("of few, " + what, few[what], Twins::few, x -> x.count(w));
            Twins.still("of all, " + what, full[what], Twins::full, x -> x.count(w));
        }
        says("promise 34", "BAD.");
        int[] noWhat = {-1, 5, MIN, MAX};
        each("what", -2, PromiseEdgeTest::fresh, noWhat, (x, n) -> x.count(n));
        each("what", -2, Twins::few, noWhat, (x, n) -> x.count(n));
    }

    private static void tape() {
        says("promise 35", "A TAPE becomes a row of n (0 .. 60) of a sort, all 0");
        for (int tape = 0; tape < 6; tape++) {
            for (int sort = 0; sort < 5; sort++) {
                TwoTrue x = new TwoTrue();
                due("of 60", x.tape(tape, sort, 60), 1);
                for (int i = 0; i < 60; i++) {
                    due("all 0", x.read(tape, i), 0);
                    x.item(tape, i, 1);
                }
                due("no more", x.read(tape, 60), TwoTrue.NO);
                due("of none", x.tape(tape, sort, 0), 1);
                due("no item", x.read(tape, 0), TwoTrue.NO);
                due("no place, but something", x.item(tape, 0, 0), -13);
                due("of one", x.tape(tape, sort, 1), 1);
                due("0 again", x.read(tape, 0), 0);
                due("no more", x.read(tape, 1), TwoTrue.NO);
                due("of 60 again", x.tape(tape, (sort + 1) % 5, 60), 1);
                due("0 again", x.read(tape, 1), 0);
                due("0 again", x.read(tape, 59), 0);
            }
        }
        says("promise 35", "or holds nothing (sort -1: n does not matter): 1.");
        for (int n : new int[] {MIN, -1, 0, 1, 60, 61, MAX}) {
            TwoTrue x = new TwoTrue();
            due("of nothing, n " + n, x.tape(5, -1, n), 1);
            due("nothing is there", x.item(5, 0, 0), -11);
            x.tape(5, 2, 3);
            due("of three, n " + n, x.tape(5, -1, n), 1);
            due("nothing is there", x.item(5, 0, 0), -11);
            due("nothing is there", x.read(5, 0), TwoTrue.NO);
            x.tape(5, 2, 3);
            due("0 again", x.read(5, 2), 0);
        }
        says("promise 35", "NONE: tape");
        each("tape", -1, PromiseEdgeTest::fresh, NO_SIX, (x, n) -> x.tape(n, 0, 1));
        each("tape", -1, Twins::full, NO_SIX, (x, n) -> x.tape(n, -1, 0));
        says("promise 35", "BAD: sort, n above 60");
        each("sort", -2, Twins::full, new int[] {-2, 5, MIN, MAX}, (x, n) -> x.tape(0, n, 1));
        each("n", -2, Twins::full, new int[] {61, 62, MAX}, (x, n) -> x.tape(0, 0, n));
        each("n", -2, Twins::few, new int[] {61, 62, MAX}, (x, n) -> x.tape(5, 4, n));
        says("promise 35", "SIZE.");
        each("n", -14, Twins::full, new int[] {-1, -2, MIN}, (x, n) -> x.tape(0, 0, n));
        each("n", -14, Twins::few, new int[] {-1, -2, MIN}, (x, n) -> x.tape(5, 4, n));
        says("promise 35", "NONE: tape; BAD: sort, n above 60; SIZE.");
        each("NONE ahead of BAD, tape", -1, Twins::few, NO_SIX, (x, n) -> x.tape(n, 5, 1));
        each("NONE ahead of BAD, tape", -1, Twins::few, NO_SIX, (x, n) -> x.tape(n, 0, 61));
        each("NONE ahead of SIZE, tape", -1, Twins::few, NO_SIX, (x, n) -> x.tape(n, 0, -1));
        each("BAD ahead of SIZE, sort", -2, Twins::few, new int[] {-2, 5, MIN, MAX}, (x, n) -> x.tape(0, n, -1));
    }

    private static void item() {
        says("promise 36", "Item i of a TAPE becomes v (its lowest bits, as many as an item has; "
                + "booleans: whether v is not 0): 1.");
        long[][] rows = {
            {127, 127, 127, 127, 127, 1}, {128, -128, 128, 128, 128, 1}, {255, -1, 255, 255, 255, 1},
            {256, 0, 256, 256, 256, 1}, {-129, 127, -129, -129, -129, 1}, {32767, -1, 32767, 32767, 32767, 1},
            {32768, 0, -32768, 32768, 32768, 1}, {65536, 0, 0, 65536, 65536, 1},
            {-32769, -1, 32767, -32769, -32769, 1}, {MAX, -1, -1, MAX, MAX, 1}, {1L + MAX, 0, 0, MIN, 1L + MAX, 1},
            {MIN - 1L, -1, -1, MAX, MIN - 1L, 1}, {1L << 32, 0, 0, 0, 1L << 32, 1}, {-1, -1, -1, -1, -1, 1},
            {0, 0, 0, 0, 0, 0}, {1, 1, 1, 1, 1, 1}, {Long.MAX_VALUE, -1, -1, -1, Long.MAX_VALUE, 1},
            {Long.MIN_VALUE, 0, 0, 0, Long.MIN_VALUE, 1}};
        for (int sort = 0; sort < 5; sort++) {
            TwoTrue x = new TwoTrue();
            x.tape(5, sort, 60);
            for (long[] row : rows) {
                for (int i = 0; i < 60; i += 59) {
                    due("becomes " + row[0], x.item(5, i, row[0]), 1);
                    due("sort " + sort + ", " + row[0], x.read(5, i), row[1 + sort]);
                }
                due("the one beside the first", x.read(5, 1), 0);
                due("the one beside the last", x.read(5, 58), 0);
            }
        }
        says("promise 36", "NONE");
        each("tape", -1, PromiseEdgeTest::fresh, NO_SIX, (x, n) -> x.item(n, 0, 1));
        each("tape", -1, Twins::full, NO_SIX, (x, n) -> x.item(n, 0, 1));
        says("promise 36", "NOTHING");
        each("tape", -11, PromiseEdgeTest::fresh, new int[] {0, 1, 2, 3, 4, 5}, (x, n) -> x.item(n, 0, 1));
        each("tape", -11, Twins::few, new int[] {5}, (x, n) -> x.item(n, 0, 1));
        says("promise 36", "PLACE.");
        each("place", -13, Twins::few, new int[] {-1, 2, 60, MIN, MAX}, (x, n) -> x.item(0, n, 1));
        each("place", -13, Twins::few, new int[] {-1, 6, 60, MIN, MAX}, (x, n) -> x.item(4, n, 1));
        each("place", -13, Twins::full, new int[] {-1, 60, MIN, MAX}, (x, n) -> x.item(5, n, 1));
        says("promise 36", "NONE; NOTHING; PLACE.");
        each("NONE ahead of PLACE, tape", -1, Twins::full, NO_SIX, (x, n) -> x.item(n, 60, 1));
        each("NOTHING ahead of PLACE, place", -11, Twins::few, new int[] {-1, 60, MIN, MAX}, (x, n) -> x.item(5, n, 1));
    }

    private static void read() {
        says("promise 37", "Item i of a TAPE.");
        TwoTrue x = new TwoTrue();
        for (int tape = 0; tape < 6; tape++) {
            x.tape(tape, 3, 60);
            x.item(tape, 0, 100 + tape);
            x.item(tape, 59, Long.MAX_VALUE - tape);
        }
        for (int tape = 0; tape < 6; tape++) {
            due("the first", x.read(tape, 0), 100 + tape);
            due("the last", x.read(tape, 59), Long.MAX_VALUE - tape);
            due("in between", x.read(tape, 58), 0);
        }
        says("promise 37", "NO: no such TAPE, nothing there, no such place.");
        long no = TwoTrue.NO;
        each("tape", no, PromiseEdgeTest::fresh, NO_SIX, (y, n) -> y.read(n, 0));
        each("tape", no, Twins::full, NO_SIX, (y, n) -> y.read(n, 0));
        each("nothing there, tape", no, PromiseEdgeTest::fresh, new int[] {0, 5}, (y, n) -> y.read(n, 0));
        each("nothing there, place", no, Twins::few, new int[] {-1, 0, 59, 60}, (y, n) -> y.read(5, n));
        each("place", no, Twins::few, new int[] {-1, 2, 60, MIN, MAX}, (y, n) -> y.read(0, n));
        each("place", no, Twins::full, new int[] {-1, 60, MIN, MAX}, (y, n) -> y.read(3, n));
        Twins.still("read", 110, Twins::full, y -> y.read(0, 59));
    }

    /** TAPES 0 and 1 of five ints, 1 .. 5 and 11 .. 15; 2 of five longs; 3 of no ints; 4 and 5 hold nothing. */
    private static TwoTrue tapes() {
        TwoTrue x = new TwoTrue();
        x.tape(0, 2, 5);
        x.tape(1, 2, 5);
        x.tape(2, 3, 5);
        x.tape(3, 2, 0);
        for (int i = 0; i < 5; i++) {
            x.item(0, i, i + 1);
            x.item(1, i, i + 11);
            x.item(2, i, i + 21);
        }
        return x;
    }

    private static void shifted(int i, int other, int j, int n, int... want) {
        TwoTrue x = tapes();
        String call = "shift(0, " + i + ", " + other + ", " + j + ", " + n + ")";
        due(call, x.shift(0, i, other, j, n), n);
        for (int k = 0; k < 5; k++) {
            due(call + ", item " + k, x.read(other, k), want[k]);
            due(call + ", of the one it is not", x.read(1 - other, k), other == 1 ? k + 1 : k + 11);
            due(call + ", of another", x.read(2, k), k + 21);
        }
        due(call + ", its end", x.read(other, 5), TwoTrue.NO);
    }

    private static void shift() {
        says("promise 38", "n items of a TAPE from i on come to another one (or the same) from j on, as they all were "
                + "before: n.");
        shifted(0, 1, 0, 5, 1, 2, 3, 4, 5);
        shifted(0, 1, 4, 1, 11, 12, 13, 14, 1);
        shifted(4, 1, 0, 1, 5, 12, 13, 14, 15);
        shifted(4, 1, 4, 1, 11, 12, 13, 14, 5);
        shifted(1, 1, 2, 3, 11, 12, 2, 3, 4);
        shifted(0, 1, 0, 0, 11, 12, 13, 14, 15);
        shifted(5, 1, 5, 0, 11, 12, 13, 14, 15);
        shifted(5, 1, 0, 0, 11, 12, 13, 14, 15);
        shifted(0, 0, 0, 5, 1, 2, 3, 4, 5);
        shifted(0, 0, 1, 4, 1, 1, 2, 3, 4);
        shifted(1, 0, 0, 4, 2, 3, 4, 5, 5);
        shifted(0, 0, 3, 2, 1, 2, 3, 1, 2);
        shifted(3, 0, 0, 2, 4, 5, 3, 4, 5);
        shifted(0, 0, 2, 3, 1, 2, 1, 2, 3);
        shifted(5, 0, 5, 0, 1, 2, 3, 4, 5);
        due("none of none", tapes().shift(3, 0, 3, 0, 0), 0);
        due("none of none to five", tapes().shift(3, 0, 1, 5, 0), 0);
        TwoTrue x = Twins.full();
        due("sixty bytes", x.shift(0, 0, 5, 0, 60), 60);
        due("the first", x.read(5, 0), 100);
        due("the last", x.read(5, 59), 110);
        due("the last to the first", x.shift(0, 59, 5, 0, 1), 1);
        due("the first", x.read(5, 0), 110);
        says("promise 38", "NONE: tapes");
        each("tape", -1, PromiseEdgeTest::fresh, NO_SIX, (y, n) -> y.shift(n, 0, 0, 0, 0));
        each("tape", -1, Twins::full, NO_SIX, (y, n) -> y.shift(n, 0, 0, 0, 1));
        each("other", -1, Twins::full, NO_SIX, (y, n) -> y.shift(0, 0, n, 0, 1));
        says("promise 38", "NOTHING");
        each("tape", -11, PromiseEdgeTest::tapes, new int[] {4, 5}, (y, n) -> y.shift(n, 0, 1, 0, 0));
        each("other", -11, PromiseEdgeTest::tapes, new int[] {4, 5}, (y, n) -> y.shift(1, 0, n, 0, 0));
        each("both", -11, PromiseEdgeTest::tapes, new int[] {4, 5}, (y, n) -> y.shift(n, 0, n, 0, 0));
        says("promise 38", "CAST: of unlike sorts");
        each("other", -12, PromiseEdgeTest::tapes, new int[] {0, 1, 3}, (y, n) -> y.shift(n, 0, 2, 0, 0));
        each("tape", -12, PromiseEdgeTest::tapes, new int[] {0, 1, 3}, (y, n) -> y.shift(2, 0, n, 0, 0));
        each("a byte to", -12, Twins::full, new int[] {1, 2, 3, 4}, (y, n) -> y.shift(0, 0, n, 0, 1));
        says("promise 38", "PLACE: n, i or j is below 0, or beyond either's end.");
        each("n", -13, PromiseEdgeTest::tapes, new int[] {-1, 6, MIN, MAX}, (y, n) -> y.shift(0, 0, 1, 0, n));
        each("n of one", -13, PromiseEdgeTest::tapes, new int[] {-1, 2, MIN, MAX}, (y, n) -> y.shift(0, 4, 1, 0, n));
        each("n to one", -13, PromiseEdgeTest::tapes, new int[] {-1, 2, MIN, MAX}, (y, n) -> y.shift(0, 0, 1, 4, n));
        each("n at the end", -13, PromiseEdgeTest::tapes, new int[] {-1, 1, MIN, MAX},
                (y, n) -> y.shift(0, 5, 0, 5, n));
        each("i", -13, PromiseEdgeTest::tapes, new int[] {-1, 5, MIN, MAX}, (y, n) -> y.shift(0, n, 1, 0, 1));
        each("j", -13, PromiseEdgeTest::tapes, new int[] {-1, 5, MIN, MAX}, (y, n) -> y.shift(0, 0, 1, n, 1));
        each("i of none", -13, PromiseEdgeTest::tapes, new int[] {-1, 6, MIN, MAX}, (y, n) -> y.shift(0, n, 1, 0, 0));
        each("j of none", -13, PromiseEdgeTest::tapes, new int[] {-1, 6, MIN, MAX}, (y, n) -> y.shift(0, 0, 1, n, 0));
        each("i and j", -13, PromiseEdgeTest::tapes, new int[] {-1, 6, MIN, MAX}, (y, n) -> y.shift(0, n, 1, n, 0));
        each("all", -13, PromiseEdgeTest::tapes, new int[] {-1, MIN, MAX}, (y, n) -> y.shift(0, n, 1, n, n));
        each("i and n wrap", -13, PromiseEdgeTest::tapes, new int[] {1, 5, MAX}, (y, n) -> y.shift(0, n, 1, 0, MAX));
        each("n and i of no items", -13, PromiseEdgeTest::tapes, new int[] {1, MAX}, (y, n) -> y.shift(3, 0, 1, 0, n));
        says("promise 38", "NONE: tapes; NOTHING; CAST: of unlike sorts; PLACE");
        int[] off = {-1, 6};
        each("NONE ahead of NOTHING, other", -1, PromiseEdgeTest::tapes, NO_SIX, (y, n) -> y.shift(4, 0, n, 0, 0));
        each("NONE ahead of NOTHING, tape", -1, PromiseEdgeTest::tapes, NO_SIX, (y, n) -> y.shift(n, 0, 4, 0, 0));
        each("NONE ahead of PLACE, other", -1, PromiseEdgeTest::tapes, NO_SIX, (y, n) -> y.shift(0, -1, n, 0, -1));
        each("NOTHING ahead of PLACE, n", -11, PromiseEdgeTest::tapes, off, (y, n) -> y.shift(4, 0, 0, 0, n));
        each("NOTHING ahead of PLACE, n", -11, PromiseEdgeTest::tapes, off, (y, n) -> y.shift(0, 0, 4, 0, n));
        each("CAST ahead of PLACE, n", -12, PromiseEdgeTest::tapes, off, (y, n) -> y.shift(0, 0, 2, 0, n));
        each("CAST ahead of PLACE, i", -12, PromiseEdgeTest::tapes, off, (y, n) -> y.shift(2, n, 1, 0, 1));
    }
}
