import java.lang.reflect.Array;
import java.math.BigInteger;
import java.util.ArrayList;
import java.util.Arrays;
import java.util.List;
import java.util.regex.Matcher;
import java.util.regex.Pattern;

/**
 * The document written a second time, as slowly and plainly as it reads, with all of Java's library:
 * texts are judged by one regular expression, acts are methods of classes under one another, tapes are
 * Java's own arrays. MirrorTest holds it beside TwoTrue.
 */
final class Mirror {
    static final long NO = Long.MIN_VALUE;

    // ---- acts, as Java's own classes

    private static class Guest {
        final int i;
        final int v;
        final List<Integer> trace;

        Guest(int i, int v, List<Integer> trace) {
            this.i = i;
            this.v = v;
            this.trace = trace;
        }

        int doubts(int x) { trace.add(10); return x + i; }
        int guesses(int x) { trace.add(11); return doubts(x) - v; }
        int tells(int x) { trace.add(12); return guesses(x) * 2; }
    }

    private static class Reader extends Guest {
        Reader(int i, int v, List<Integer> t) { super(i, v, t); }
        @Override int guesses(int x) { trace.add(20); return super.guesses(x) ^ 6; }
    }

    private static class Follower extends Guest {
        Follower(int i, int v, List<Integer> t) { super(i, v, t); }
        @Override int doubts(int x) { trace.add(30); return super.doubts(x * 3); }
    }

    private static class Friend extends Guest {
        Friend(int i, int v, List<Integer> t) { super(i, v, t); }
        @Override int tells(int x) { trace.add(40); return super.tells(x) + guesses(1); }
    }

    private static final class Sharp extends Reader {
        Sharp(int i, int v, List<Integer> t) { super(i, v, t); }
        @Override int doubts(int x) { trace.add(50); return -super.doubts(x); }
        @Override int guesses(int x) { trace.add(51); return super.guesses(x + 1); }
    }

    private static final class Sheep extends Follower {
        Sheep(int i, int v, List<Integer> t) { super(i, v, t); }
        @Override int tells(int x) { trace.add(60); return super.tells(x - i); }
    }

    private static final class Told extends Friend {
        Told(int i, int v, List<Integer> t) { super(i, v, t); }
        @Override int guesses(int x) { trace.add(70); return super.guesses(x) + super.doubts(2); }
        @Override int doubts(int x) { trace.add(71); return super.doubts(x) ^ v; }
    }

    private static final List<Class<?>> CLASSES = List.of(Guest.class, Reader.class, Follower.class,
            Friend.class, Sharp.class, Sheep.class, Told.class);

    // ---- the state

    private static final class One implements Cloneable {
        int kind;
        int v;
        int points;
        int lie;
        int[] likely = {50, 50, 50};
        int[] lengths = {5, 5, 5};
        int[] order = {0, 1, 2};
        int[] row = {0, 0, 0, 0};

        One copy() {
            One o = new One();
            o.kind = kind;
            o.v = v;
            o.points = points;
            o.lie = lie;
            o.likely = likely.clone();
            o.lengths = lengths.clone();
            o.order = order.clone();
            o.row = row.clone();
            return o;
        }

        int lieAt() {
            for (int p = 0; p < 3; p++) {
                if (order[p] == lie) {
                    return p;
                }
            }
            throw new IllegalStateException();
        }
    }

    private static final class World {
        List<One> all = new ArrayList<>();
        int round;
        int[] seen = {0, 0, 0};
        List<int[]> book = new ArrayList<>();
        String evening;

        World copy() {
            World w = new World();
            for (One o : all) {
                w.all.add(o.copy());
            }
            w.round = round;
            w.seen = seen.clone();
            w.book = new ArrayList<>(book);
            w.evening = evening;
            return w;
        }
    }

    private World w = new World();
    private World image;
    private int evenings;
    private final StringBuilder text = new StringBuilder();
    private final List<Integer> trace = new ArrayList<>();
    private final Object[] tapes = new Object[6];

    // ---- evenings

    private static final Pattern EVENING = Pattern.compile(eveningRule(), Pattern.DOTALL);

    private static String eveningRule() {
        String test = "[gktpln][<=>][0-9]{1,2}";
        String f = test;
        for (int others = 3; others >= 0; others--) {
            String t = "(?:" + f + ")(?:&(?:" + f + "))*";
            String e = "(?:" + t + ")(?:\\|(?:" + t + "))*";
            f = "(?:" + test + "|!(?:" + f + ")|\\((?:" + e + ")\\))";
        }
        String t = f + "(?:&" + f + ")*";
        String e = t + "(?:\\|" + t + ")*";
        String clause = "(?:(?:odd|sure) [0-9]{1,2} " + e + "|hands [0-9]{1,2})";
        return clause + "(?:;" + clause + "){0,9}";
    }

    static int fault(String s) {
        Matcher m = EVENING.matcher(s);
        if (m.matches()) {
            return -1;
        }
        for (int n = 1; n <= s.length(); n++) {
            Matcher part = EVENING.matcher(s.substring(0, n));
            if (!part.matches() && !part.hitEnd()) {
                return n - 1;
            }
        }
        return s.length();
    }

    private static List<String> splitOutside(String s, char by) {
        List<String> parts = new ArrayList<>();
        int open = 0;
        int from = 0;
        for (int i = 0; i < s.length(); i++) {
            char c = s.charAt(i);
            open += c == '(' ? 1 : c == ')' ? -1 : 0;
            if (c == by && open == 0) {
                parts.add(s.substring(from, i));
                from = i + 1;
            }
        }
        parts.add(s.substring(from));
        return parts;
    }

    private static boolean isSo(String e, int[] values) {
        for (String t : splitOutside(e, '|')) {
            boolean all = true;
            for (String f : splitOutside(t, '&')) {
                all &= factorIsSo(f, values);
            }
            if (all) {
                return true;
            }
        }
        return false;
    }

    private static boolean factorIsSo(String f, int[] values) {
        if (f.startsWith("!")) {
            return !factorIsSo(f.substring(1), values);
        }
        if (f.startsWith("(")) {
            return isSo(f.substring(1, f.length() - 1), values);
        }
        int value = values["gktpln".indexOf(f.charAt(0))];
        int number = Integer.parseInt(f.substring(2));
        return f.charAt(1) == '<' ? value < number : f.charAt(1) == '=' ? value == number : value > number;
    }

    private static int handsOf(World w) {
        int n = 10;
        if (w.evening != null) {
            for (String clause : w.evening.split(";")) {
                if (clause.startsWith("hands ")) {
                    n = Integer.parseInt(clause.substring(6));
                }
            }
        }
        return n;
    }

    private static int doubtIn(World w, int person, int teller, int place) {
        One tells = w.all.get(teller);
        int thing = tells.order[place];
        int[] values = {person, w.all.get(person).kind, teller, place, tells.likely[thing] / 10,
            tells.lengths[thing]};
        int sum = 99 - tells.likely[thing];
        if (w.evening != null) {
            for (String clause : w.evening.split(";")) {
                String[] parts = clause.split(" ");
                if (parts[0].equals("odd") && isSo(parts[2], values)) {
                    sum += Integer.parseInt(parts[1]);
                } else if (parts[0].equals("sure") && isSo(parts[2], values)) {
                    sum -= Integer.parseInt(parts[1]);
                }
            }
        }
        return sum;
    }

    // ---- rounds

    private static int weightAs(int kind, World w, int person, int teller, int place, int[] hands) {
        One one = w.all.get(person);
        One tells = w.all.get(teller);
        int any = hands[0] + hands[1] + hands[2];
        switch (kind) {
            case 0:
                return doubtIn(w, person, teller, place);
            case 1:
                return weightAs(0, w, person, teller, place, hands) + 2 * tells.lengths[tells.order[place]];
            case 2:
                return weightAs(0, w, person, teller, place, hands) + handsOf(w) * hands[place];
            case 3:
                return weightAs(0, w, person, teller, place, hands)
                        + (teller == one.v % w.all.size() && place == tells.lieAt() ? 5 * one.v : 0);
            case 4:
                return weightAs(1, w, person, teller, place, hands) + (place == 2 ? 30 : 0);
            case 5:
                return any > 0 ? handsOf(w) * hands[place] : weightAs(2, w, person, teller, place, hands);
            default:
                return weightAs(3, w, person, teller, place, hands) + (one.row[w.round % 4] == place ? 40 : 0);
        }
    }

    private static int pick(int kind, World w, int person, int teller, int[] hands) {
        int best = 0;
        for (int place = 1; place < 3; place++) {
            if (weightAs(kind, w, person, teller, place, hands)
                    > weightAs(kind, w, person, teller, best, hands)) {
                best = place;
            }
        }
        return best;
    }

    /** The guesses of all in a row of guessers, -1 for who does not guess; hands go up as they guess. */
    private static int[] guesses(World w, int teller, List<Integer> line, int[] hands) {
        int[] guessed = new int[6];
        Arrays.fill(guessed, -1);
        for (int g : line) {
            guessed[g] = pick(w.all.get(g).kind, w, g, teller, hands);
            hands[guessed[g]]++;
        }
        return guessed;
    }

    private static List<Integer> othersOf(World w, int... less) {
        List<Integer> line = new ArrayList<>();
        for (int g = 0; g < w.all.size(); g++) {
            boolean out = false;
            for (int l : less) {
                out |= g == l;
            }
            if (!out) {
                line.add(g);
            }
        }
        return line;
    }

    private static int[] asEver(World w, int teller) {
        return guesses(w, teller, othersOf(w, teller), new int[3]);
    }

    private static int takenIn(World w, int teller, int[] guessed) {
        int n = 0;
        for (int g : guessed) {
            if (g >= 0 && g != w.all.get(teller).lieAt()) {
                n++;
            }
        }
        return n;
    }

    private static int takenIn(World w, int teller) {
        return takenIn(w, teller, asEver(w, teller));
    }

    private static int play(World w, int teller) {
        int[] guessed = asEver(w, teller);
        int n = takenIn(w, teller, guessed);
        for (int g = 0; g < w.all.size(); g++) {
            if (guessed[g] == w.all.get(teller).lieAt()) {
                w.all.get(g).points++;
            }
        }
        w.all.get(teller).points += n;
        w.round++;
        return n;
    }

    private static void rows(List<Integer> start, List<Integer> rest, List<List<Integer>> into) {
        if (rest.isEmpty()) {
            into.add(start);
        }
        for (int i = 0; i < rest.size(); i++) {
            List<Integer> longer = new ArrayList<>(start);
            longer.add(rest.get(i));
            List<Integer> less = new ArrayList<>(rest);
            less.remove(i);
            rows(longer, less, into);
        }
    }

    // ---- the calls

    private boolean no(int person) {
        return person < 0 || person >= w.all.size();
    }

    private static boolean noThree(int n) {
        return n < 0 || n > 2;
    }

    int person(int kind, int v) {
        if (kind < 0 || kind > 6) return -1;
        if (v < 0 || v > 9) return -2;
        if (w.all.size() == 6) return -4;
        One o = new One();
        o.kind = kind;
        o.v = v;
        w.all.add(o);
        return w.all.size() - 1;
    }

    int thing(int person, int thing, int what, int n) {
        if (no(person) || noThree(thing) || what != 0 && what != 1) return -1;
        if (n < 0 || what == 0 && n > 99 || what == 1 && n > 9) return -2;
        int[] of = what == 0 ? w.all.get(person).likely : w.all.get(person).lengths;
        int was = of[thing];
        of[thing] = n;
        return was;
    }

    int lie(int person, int thing) {
        if (no(person) || noThree(thing)) return -1;
        int was = w.all.get(person).lie;
        w.all.get(person).lie = thing;
        return was;
    }

    int tells(int person, int first, int second) {
        if (no(person) || noThree(first) || noThree(second)) return -1;
        if (first == second) return -2;
        w.all.get(person).order = new int[] {first, second, 3 - first - second};
        return 1;
    }

    int of(int person, int what) {
        if (no(person)) return -1;
        One o = w.all.get(person);
        if (what == 0) return o.kind;
        if (what == 1) return o.v;
        if (what == 2) return o.points;
        if (what == 3) return o.lie;
        if (what >= 10 && what <= 12) return o.order[what - 10];
        if (what >= 20 && what <= 22) return o.likely[what - 20];
        if (what >= 30 && what <= 32) return o.lengths[what - 30];
        return -1;
    }

    int row(int person, int part, int n) {
        if (no(person) || part < 0 || part > 3) return -1;
        if (noThree(n)) return -2;
        if (w.all.get(person).kind != 6) return -3;
        int was = w.all.get(person).row[part];
        w.all.get(person).row[part] = n;
        return was;
    }

    int feed(int sign) {
        if (sign < 0 || sign > 127) return -2;
        if (text.length() == 100) return -4;
        text.append((char) sign);
        return text.length();
    }

    int evening() {
        if (evenings == 6) return -4;
        String s = text.toString();
        text.setLength(0);
        int fault = fault(s);
        if (fault >= 0) return -10 - fault;
        w.evening = s;
        return evenings++;
    }

    int told(int what) {
        return what == 0 ? w.round : what == 1 ? handsOf(w) : -1;
    }

    int doubt(int person, int teller, int place) {
        if (no(person) || no(teller) || noThree(place)) return -1001;
        if (person == teller) return -1002;
        return doubtIn(w, person, teller, place);
    }

    int round(int teller) {
        if (no(teller)) return -1;
        if (w.round == 999) return -3;
        return play(w, teller);
    }

    int guess(int person, int teller) {
        if (no(person) || no(teller)) return -1;
        if (person == teller) return -2;
        return asEver(w, teller)[person];
    }

    int hands(int teller, int what) {
        if (no(teller) || what < 0 || what > 3) return -1;
        int[] hands = new int[3];
        int[] guessed = guesses(w, teller, othersOf(w, teller), hands);
        return what == 3 ? takenIn(w, teller, guessed) : hands[what];
    }

    int order(int teller, int what) {
        if (no(teller) || what < 0 || what > 3) return -1;
        List<List<Integer>> all = new ArrayList<>();
        rows(List.of(), List.of(0, 1, 2), all);
        int most = -1;
        List<Integer> found = null;
        for (List<Integer> row : all) {
            World u = w.copy();
            u.all.get(teller).order = new int[] {row.get(0), row.get(1), row.get(2)};
            if (takenIn(u, teller) > most) {
                most = takenIn(u, teller);
                found = row;
            }
        }
        return what == 0 ? most : found.get(what - 1);
    }

    int likely(int teller, int what) {
        if (no(teller) || what != 0 && what != 1) return -1;
        int most = -1;
        int found = -1;
        for (int l = 0; l < 100; l += 9) {
            World u = w.copy();
            u.all.get(teller).likely[u.all.get(teller).lie] = l;
            if (takenIn(u, teller) > most) {
                most = takenIn(u, teller);
                found = l;
            }
        }
        return what == 0 ? found : most;
    }

    int best(int teller, int what) {
        if (no(teller) || what != 0 && what != 1) return -1;
        int most = -1;
        int found = -1;
        for (int l = 0; l < 3; l++) {
            World u = w.copy();
            u.all.get(teller).lie = l;
            if (takenIn(u, teller) > most) {
                most = takenIn(u, teller);
                found = l;
            }
        }
        return what == 0 ? found : most;
    }

    int first(int person, int teller, int place) {
        if (no(person) || no(teller) || noThree(place)) return -1;
        if (person == teller) return -2;
        int[] ever = asEver(w, teller);
        int[] hands = new int[3];
        hands[place] = 1;
        int[] then = guesses(w, teller, othersOf(w, teller, person), hands);
        int n = 0;
        for (int g : othersOf(w, teller, person)) {
            n += ever[g] != then[g] ? 1 : 0;
        }
        return n;
    }

    int line(int teller, int k) {
        if (no(teller) || k < -1 || k > 3) return -1;
        if (w.all.size() > 5) return -9;
        List<List<Integer>> all = new ArrayList<>();
        rows(List.of(), othersOf(w, teller), all);
        int fewest = 99;
        List<Integer> found = null;
        for (List<Integer> row : all) {
            int n = takenIn(w, teller, guesses(w, teller, row, new int[3]));
            if (n < fewest) {
                fewest = n;
                found = row;
            }
        }
        if (k == -1) return fewest;
        return k < found.size() ? found.get(k) : -5;
    }

    int worth(int person) {
        if (no(person)) return -1001;
        int kind = w.all.get(person).kind;
        if (kind != 3 && kind != 6) return -1003;
        int more = 0;
        for (int t : othersOf(w, person)) {
            int lieAt = w.all.get(t).lieAt();
            more += asEver(w, t)[person] == lieAt ? 1 : 0;
            more -= pick(0, w, person, t, new int[3]) == lieAt ? 1 : 0;
        }
        return more;
    }

    int see(int place, int n) {
        if (noThree(place)) return -1;
        if (n < 0 || n > 5) return -2;
        int was = w.seen[place];
        w.seen[place] = n;
        return was;
    }

    int lies(int teller) {
        if (no(teller)) return -1;
        int bits = 0;
        for (int l = 0; l < 3; l++) {
            World u = w.copy();
            u.all.get(teller).lie = l;
            int[] hands = new int[3];
            guesses(u, teller, othersOf(u, teller), hands);
            if (Arrays.equals(hands, w.seen)) {
                bits += 1 << l;
            }
        }
        return bits;
    }

    int ends(int person, int n, int what) {
        if (no(person) || what != 0 && what != 1) return -1;
        if (n < 0 || n > 30) return -2;
        World u = w.copy();
        for (int i = 0; i < n; i++) {
            play(u, u.round % u.all.size());
        }
        if (what == 0) return u.all.get(person).points;
        int most = 0;
        for (One o : u.all) {
            most = Math.max(most, o.points);
        }
        for (int p = 0; ; p++) {
            if (u.all.get(p).points == most) return p;
        }
    }

    private static long fraction(int above, int below, int part) {
        BigInteger by = BigInteger.valueOf(above).gcd(BigInteger.valueOf(below));
        return BigInteger.valueOf(part == 0 ? above : below).divide(by).longValue();
    }

    long odds(int teller, int part) {
        if (no(teller) || part != 0 && part != 1) return NO;
        int cases = 0;
        for (int l = 0; l < 3; l++) {
            World u = w.copy();
            u.all.get(teller).likely[l] = 50;
            int in = takenIn(u, teller);
            int out = othersOf(u, teller).size() - in;
            cases += in > out ? 1 : 0;
        }
        return fraction(cases, 3, part);
    }

    long mean(int part) {
        if (w.all.isEmpty() || part != 0 && part != 1) return NO;
        int sum = 0;
        for (int t = 0; t < w.all.size(); t++) {
            sum += takenIn(w, t);
        }
        return fraction(sum, w.all.size(), part);
    }

    int book(int teller, int person, int place) {
        if (teller == -1) {
            w.book.clear();
            return 0;
        }
        if (no(teller) || no(person) || noThree(place)) return -1;
        if (teller == person) return -2;
        if (w.book.size() == 12) return -4;
        w.book.add(new int[] {teller, person, place});
        return w.book.size();
    }

    int looked() {
        for (int r = 0; r < w.book.size(); r++) {
            int[] b = w.book.get(r);
            if (asEver(w, b[0])[b[1]] != b[2]) return r;
        }
        return -5;
    }

    int judge(int tape, int i) {
        if (tape < 0 || tape > 5) return -1;
        if (tapes[tape] != null && !(tapes[tape] instanceof short[])) return -12;
        short[] row = (short[]) tapes[tape];
        for (int p = 0; p < w.all.size(); p++) {
            if (row == null || i < 0 || (long) i + p >= row.length) return 100 + p;
            if (row[i + p] != w.all.get(p).points) return p;
        }
        return -5;
    }

    int image() {
        image = w.copy();
        return w.all.size();
    }

    int undo() {
        if (image == null) return -3;
        w = image.copy();
        return w.all.size();
    }

    int act(int person, int act, int x) {
        trace.clear();
        if (no(person) || act < 0 || act > 2) return 0;
        One o = w.all.get(person);
        Guest g;
        switch (o.kind) {
            case 0: g = new Guest(person, o.v, trace); break;
            case 1: g = new Reader(person, o.v, trace); break;
            case 2: g = new Follower(person, o.v, trace); break;
            case 3: g = new Friend(person, o.v, trace); break;
            case 4: g = new Sharp(person, o.v, trace); break;
            case 5: g = new Sheep(person, o.v, trace); break;
            default: g = new Told(person, o.v, trace); break;
        }
        return act == 0 ? g.doubts(x) : act == 1 ? g.guesses(x) : g.tells(x);
    }

    int trace(int i) {
        return i < 0 || i >= trace.size() || i >= 20 ? -1 : trace.get(i);
    }

    int taken(int person, int k) {
        if (k < 0 || k > 6) return -2;
        if (no(person)) return -11;
        int kind = w.all.get(person).kind;
        return CLASSES.get(k).isAssignableFrom(CLASSES.get(kind)) ? kind : -12;
    }

    int count(int what) {
        switch (what) {
            case 0: return w.all.size();
            case 1: return evenings;
            case 2: return w.book.size();
            case 3: return text.length();
            case 4: return trace.size();
            default: return -2;
        }
    }

    int tape(int tape, int sort, int n) {
        if (tape < 0 || tape > 5) return -1;
        if (sort == -1) {
            tapes[tape] = null;
            return 1;
        }
        if (sort < 0 || sort > 4 || n > 60) return -2;
        if (n < 0) return -14;
        Class<?>[] sorts = {byte.class, short.class, int.class, long.class, boolean.class};
        tapes[tape] = Array.newInstance(sorts[sort], n);
        return 1;
    }

    int item(int tape, int i, long v) {
        if (tape < 0 || tape > 5) return -1;
        Object t = tapes[tape];
        if (t == null) return -11;
        if (i < 0 || i >= Array.getLength(t)) return -13;
        if (t instanceof byte[]) ((byte[]) t)[i] = (byte) v;
        else if (t instanceof short[]) ((short[]) t)[i] = (short) v;
        else if (t instanceof int[]) ((int[]) t)[i] = (int) v;
        else if (t instanceof long[]) ((long[]) t)[i] = v;
        else ((boolean[]) t)[i] = v != 0;
        return 1;
    }

    long read(int tape, int i) {
        if (tape < 0 || tape > 5 || tapes[tape] == null) return NO;
        Object t = tapes[tape];
        if (i < 0 || i >= Array.getLength(t)) return NO;
        if (t instanceof boolean[]) return ((boolean[]) t)[i] ? 1 : 0;
        return Array.getLong(t, i);
    }

    @SuppressWarnings("SuspiciousSystemArraycopy")
    int shift(int tape, int i, int other, int j, int n) {
        if (tape < 0 || tape > 5 || other < 0 || other > 5) return -1;
        if (tapes[tape] == null || tapes[other] == null) return -11;
        if (tapes[tape].getClass() != tapes[other].getClass()) return -12;
        if (n < 0 || i < 0 || j < 0 || (long) i + n > Array.getLength(tapes[tape])
                || (long) j + n > Array.getLength(tapes[other])) {
            return -13;
        }
        System.arraycopy(tapes[tape], i, tapes[other], j, n);
        return n;
    }
}
