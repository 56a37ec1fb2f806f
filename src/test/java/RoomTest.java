import java.lang.management.ManagementFactory;
import java.lang.reflect.Array;
import java.lang.reflect.Field;
import java.lang.reflect.Modifier;
import java.util.ArrayDeque;
import java.util.ArrayList;
import java.util.IdentityHashMap;
import java.util.List;
import java.util.Map;

/** The room: what one object takes, and that calls, the dearest too, take none. */
public final class RoomTest {
    private static final com.sun.management.ThreadMXBean BEAN =
            (com.sun.management.ThreadMXBean) ManagementFactory.getThreadMXBean();

    private RoomTest() { }

    private static void lookAt(Object o, Map<Object, Object> seen, ArrayDeque<Object> open) {
        if (o != null && !(o instanceof String) && seen.put(o, o) == null) {
            open.add(o);
        }
    }

    private static void objects() throws IllegalAccessException {
        Check.group("what one object takes");
        Map<Object, Object> seen = new IdentityHashMap<>();
        ArrayDeque<Object> open = new ArrayDeque<>();
        lookAt(new TwoTrue(), seen, open);
        int elements = 0;
        while (!open.isEmpty()) {
            Object o = open.poll();
            if (o.getClass().isArray()) {
                elements += Array.getLength(o);
                for (int i = 0; i < Array.getLength(o) && o instanceof Object[]; i++) {
                    lookAt(Array.get(o, i), seen, open);
                }
                continue;
            }
            for (Field f : o.getClass().getDeclaredFields()) {
                if (!Modifier.isStatic(f.getModifiers())) {
                    elements++;
                    f.setAccessible(true);
                    if (!f.getType().isPrimitive()) {
                        lookAt(f.get(o), seen, open);
                    }
                }
            }
        }
        System.out.println("RoomTest: one object: " + seen.size() + " objects, " + elements + " elements");
        Check.holds("200 objects at most", seen.size() <= 200);
        Check.holds("3000 fields and elements at most", elements <= 3000);
    }

    private static void feed(TwoTrue x, String text) {
        for (int i = 0; i < text.length(); i++) {
            x.feed(text.charAt(i));
        }
        x.evening();
    }

    private static TwoTrue full(int people) {
        TwoTrue x = new TwoTrue();
        for (int p = 0; p < people; p++) {
            x.person(6 - p, p + 3);
            x.lie(p, p % 3);
        }
        feed(x, "odd 20 l<5&!(p=1|n>5);sure 7 g=0;odd 3 k=4;odd 2 t=1;hands 12;sure 1 !!(n<3)");
        for (int r = 0; r < 12; r++) {
            x.book(r % 5, 5 - people % 2 - r % 4, r % 3);
        }
        return x;
    }

    private static long sum = 0;

    private static void callAll(TwoTrue x, String text) {
        for (int t = 0; t < 6; t++) {
            for (int w = -1; w < 4; w++) {
                sum += x.of(t, w) + x.doubt(t, w, 2) + x.guess(t, w) + x.hands(t, w) + x.order(t, w);
                sum += x.likely(t, w) + x.best(t, w) + x.first(t, w, 1) + x.line(t, w) + x.ends(t, 30, w);
                sum += x.odds(t, w) + x.act(t, w, 7) + x.trace(w) + x.taken(t, w) + x.count(w);
                sum += x.tape(t, w, 60) + x.item(t, 5, w) + x.read(t, 5) + x.shift(t, 0, t, 1, 59);
                sum += x.judge(t, w) + x.row(t, w, 1) + x.thing(t, 1, w, 7) + x.lie(t, w) + x.tells(t, w, 1);
                sum += x.see(w, t) + x.told(w) + x.mean(w);
            }
            sum += x.worth(t) + x.lies(t) + x.looked() + x.image() + x.round(t) + x.undo();
        }
        feed(x, text);
        sum += x.person(1, 1) + x.book(0, 1, 1);
    }

    private static void calls() {
        Check.group("what calls take");
        List<TwoTrue> all = new ArrayList<>();
        for (int people = 1; people <= 6; people++) {
            all.add(full(people));
        }
        long id = Thread.currentThread().getId();
        for (int n = 0; n < 3; n++) {
            callAll(all.get(n), "hands 1 x");
            BEAN.getThreadAllocatedBytes(id);
        }
        long before = BEAN.getThreadAllocatedBytes(id);
        for (int i = 0; i < all.size(); i++) {
            callAll(all.get(i), i % 2 == 0 ? "odd 20 l<5&!(p=1|n>5);sure 7 g=0;hands 12" : "odd 20 g=1|(");
        }
        long taken = BEAN.getThreadAllocatedBytes(id) - before;
        System.out.println("RoomTest: all calls together took " + taken + " bytes");
        // What asks for the number may take some room itself.
        Check.holds("no room to speak of", taken < 4096);
    }

    public static void main(String[] args) throws IllegalAccessException {
        objects();
        calls();
        Check.holds("a sum", sum != 0);
        Check.end("RoomTest");
    }
}
