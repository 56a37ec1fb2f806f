import java.util.ArrayList;
import java.util.List;
import java.util.function.Supplier;
import java.util.function.ToLongFunction;

/**
 * Two objects made by the same calls: one is asked something that should change nothing, then all that can be
 * seen of both must be alike. As a look may change something itself, each look is at a new pair.
 */
final class Twins extends Asking {
    private static final int[] WHATS = {0, 1, 2, 3, 10, 11, 12, 20, 21, 22, 30, 31, 32};

    private Twins() { }

    private interface Look {
        void at(TwoTrue x, List<Long> seen);
    }

    // The last is a row of looks of its own: each TAPE may have 60 items, and an object has 512 calls.
    private static final List<Look> LOOKS = looks();

    /** What the call should answer, and that it changes nothing. */
    static void still(String call, long want, Supplier<TwoTrue> made, ToLongFunction<TwoTrue> asked) {
        due(call, asked.applyAsLong(made.get()), want);
        unmoved(call, made, asked);
    }

    /** That a call changes nothing, whatever it answers. */
    static void unmoved(String call, Supplier<TwoTrue> made, ToLongFunction<TwoTrue> asked) {
        alike(call + " changes nothing", made, () -> {
            TwoTrue x = made.get();
            asked.applyAsLong(x);
            return x;
        });
    }

    /** That nothing is otherwise with the one than with the other. */
    static void alike(String what, Supplier<TwoTrue> one, Supplier<TwoTrue> other) {
        for (int look = 0; look < LOOKS.size(); look++) {
            Check.holds(what + " (look " + look + ")", seen(one, look).equals(seen(other, look)));
        }
    }

    private static List<Long> seen(Supplier<TwoTrue> made, int look) {
        List<Long> seen = new ArrayList<>();
        LOOKS.get(look).at(made.get(), seen);
        return seen;
    }

    private static List<Look> looks() {
        List<Look> looks = new ArrayList<>();
        looks.add(Twins::people);
        looks.add(Twins::rounds);
        looks.add(Twins::doubts);
        looks.add(Twins::rows);
        looks.add(Twins::counts);
        looks.add(Twins::text);
        looks.add(Twins::image);
        looks.add(Twins::more);
        for (int tape = 0; tape < 6; tape++) {
            int t = tape;
            looks.add((x, seen) -> items(x, t, seen));
        }
        return looks;
    }

    private static void people(TwoTrue x, List<Long> seen) {
        for (int p = 0; p < 6; p++) {
            for (int what : WHATS) {
                seen.add((long) x.of(p, what));
            }
        }
    }

    private static void rounds(TwoTrue x, List<Long> seen) {
        for (int t = 0; t < 6; t++) {
            for (int g = 0; g < 6; g++) {
                seen.add((long) x.guess(g, t));
            }
            seen.add((long) x.hands(t, 3));
            seen.add((long) x.lies(t));
            seen.add((long) x.ends(t, 3, 0));
        }
        seen.add((long) x.looked());
        seen.add(x.mean(0));
    }

    private static void doubts(TwoTrue x, List<Long> seen) {
        for (int t = 0; t < 6; t++) {
            for (int g = 0; g < 6; g++) {
                for (int place = 0; place < 3; place++) {
                    seen.add((long) x.doubt(g, t, place));
                }
            }
        }
    }

    private static void rows(TwoTrue x, List<Long> seen) {
        for (int p = 0; p < 6; p++) {
            for (int part = 0; part < 4; part++) {
                seen.add((long) x.row(p, part, 0));
            }
        }
        for (int place = 0; place < 3; place++) {
            seen.add((long) x.see(place, 0));
        }
    }

    private static void counts(TwoTrue x, List<Long> seen) {
        seen.add((long) x.told(0));
        seen.add((long) x.told(1));
        for (int what = 0; what < 5; what++) {
            seen.add((long) x.count(what));
        }
        for (int i = 0; i < 21; i++) {
            seen.add((long) x.trace(i));
        }
    }

    private static void text(TwoTrue x, List<Long> seen) {
        seen.add((long) x.evening());
        seen.add((long) x.count(3));
        seen.add((long) x.told(1));
        doubts(x, seen);
    }

    private static void image(TwoTrue x, List<Long> seen) {
        seen.add((long) x.undo());
        people(x, seen);
        rounds(x, seen);
        rows(x, seen);
        counts(x, seen);
    }

    /** What comes next, and where. */
    private static void more(TwoTrue x, List<Long> seen) {
        seen.add((long) x.book(0, 1, 0));
        seen.add((long) x.book(1, 0, 0));
        seen.add((long) x.looked());
        seen.add((long) x.feed(';'));
        seen.add((long) x.evening());
        seen.add((long) read(x, "hands 1"));
        seen.add((long) x.person(TOLD, 8));
        people(x, seen);
        seen.add((long) x.round(0));
        counts(x, seen);
    }

    private static void items(TwoTrue x, int tape, List<Long> seen) {
        seen.add((long) x.judge(tape, 0));
        for (int i = 0; i < 61; i++) {
            seen.add(x.read(tape, i));
        }
        seen.add((long) x.item(tape, 0, -1));
        seen.add(x.read(tape, 0));
    }

    /** Three of six, another state in THE IMAGE, a TAPE of each sort, one that holds nothing; no TEXT, no TRACE. */
    static TwoTrue calm() {
        TwoTrue x = new TwoTrue();
        x.person(TOLD, 4);
        x.person(SHEEP, 7);
        likely(x, 0, 31, 42, 53);
        lengths(x, 1, 9, 0, 4);
        x.lie(1, 2);
        x.tells(0, 2, 0);
        x.row(0, 1, 2);
        x.see(2, 1);
        x.book(0, 1, 1);
        read(x, "odd 7 p=1;hands 3");
        x.round(1);
        x.image();
        x.person(FRIEND, 3);
        likely(x, 2, 12, 23, 34);
        lengths(x, 2, 1, 2, 3);
        x.lie(2, 1);
        x.tells(2, 1, 0);
        x.row(0, 0, 1);
        x.row(0, 2, 2);
        x.see(0, 1);
        x.see(1, 1);
        x.book(-1, 0, 0);
        read(x, "sure 9 p=2;odd 11 g=0;hands 21");
        x.round(0);
        x.round(2);
        x.book(1, 0, x.guess(0, 1));
        x.book(0, 2, x.guess(2, 0));
        for (int sort = 0; sort < 5; sort++) {
            x.tape(sort, sort, sort + 2);
            x.item(sort, 0, 3);
            x.item(sort, sort + 1, -7);
        }
        return x;
    }

    /** As calm(), one more EVENING to come in THE TEXT, and a TRACE. */
    static TwoTrue few() {
        TwoTrue x = calm();
        feed(x, "odd 30 p=1&!g=2;hands 5");
        x.act(2, 2, 5);
        return x;
    }

    /** Six PEOPLE, six EVENINGS, 100 bytes in THE TEXT, 12 rows in the BOOK, TAPES of 60. */
    static TwoTrue full() {
        TwoTrue x = new TwoTrue();
        for (int p = 0; p < 6; p++) {
            x.person(6 - p, p + 3);
            likely(x, p, 10 * p + 40, 90 - 9 * p, 7 * p + 30);
            x.lie(p, p % 3);
            x.tells(p, (p + 1) % 3, p % 3);
            x.see(p % 3, p);
        }
        x.row(0, 1, 1);
        x.row(0, 3, 2);
        for (int e = 0; e < 5; e++) {
            read(x, "hands " + e);
        }
        read(x, "odd 9 p=1;hands 6");
        x.image();
        x.lie(5, 1);
        x.round(2);
        for (int row = 0; row < 12; row++) {
            int t = row % 6;
            int g = (row + 1 + row / 6) % 6;
            // All but the last are so.
            x.book(t, g, row < 11 ? x.guess(g, t) : (x.guess(g, t) + 1) % 3);
        }
        for (int i = 0; i < 100; i++) {
            x.feed("odd 5 p=1;".charAt(i % 10));
        }
        for (int tape = 0; tape < 6; tape++) {
            x.tape(tape, tape % 5, 60);
            x.item(tape, 0, 100 + tape);
            x.item(tape, 59, 110 + tape);
        }
        x.act(0, 2, 3);
        return x;
    }
}
