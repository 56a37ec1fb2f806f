/**
 * Two that are true: one tells three things of whom one is a lie, and all others guess which.
 *
 * <p>All rows are made with the object and used again, for all calls of a run share one room: no call
 * makes an object. What would be, if something were otherwise, is played on a second party that is made
 * like the one that is, so that what is asked changes nothing.
 */
public final class TwoTrue {
    public static final int NONE = -1, BAD = -2, STATE = -3, FULL = -4;
    public static final long NO = Long.MIN_VALUE;

    private static final int TOO_MANY = -9, FAULTY = -10, NOTHING = -11, CAST = -12, PLACE = -13, SIZE = -14;
    private static final int NO_ONE_SUCH = -5;
    // DOUBT and WORTH may be -1 to -4 themselves: what refuses them lies this much lower.
    private static final int LOWER = -1000;

    private static final int PEOPLE = 6, THREE = 3, PARTS = 4, ORDERS = 6, LAST_ROUND = 999;
    private static final int EVENINGS = 6, TEXT = 100, CLAUSES = 10, NESTED = 4, HANDS_WITHOUT = 10;
    private static final int BOOK_ROWS = 12, LINE = 5, ROUNDS_AHEAD = 30, JUDGED = 100;

    private static final int GUEST = 0, READER = 1, FOLLOWER = 2, FRIEND = 3, SHARP = 4, SHEEP = 5, TOLD = 6;
    private static final int KINDS = 7;
    private static final int[] KIND_ABOVE = {-1, GUEST, GUEST, GUEST, READER, FOLLOWER, FRIEND};

    // All orders of three, as rows, the first one first.
    private static final int[] ORDER_ROWS = {0, 1, 2, 0, 2, 1, 1, 0, 2, 1, 2, 0, 2, 0, 1, 2, 1, 0};

    private final Party now = new Party();
    private final Party image = new Party();
    private final Party trial = new Party();
    private boolean hasImage;

    private final Text text = new Text();
    private final Evening[] evenings = new Evening[EVENINGS];
    private final Evening without = new Evening();
    private int eveningCount;

    private final Play play = new Play();
    private final int[] guessedBefore = new int[PEOPLE];
    private final int[] rowTried = new int[LINE];
    private final int[] rowFound = new int[LINE];

    private final Acts acts = new Acts();
    private final Tapes tapes = new Tapes();

    public TwoTrue() {
        for (int e = 0; e < EVENINGS; e++) {
            evenings[e] = new Evening();
        }
    }

    // ---- people, things, evenings

    public int person(int kind, int v) {
        if (kind < 0 || kind >= KINDS) {
            return NONE;
        }
        if (v < 0 || v > 9) {
            return BAD;
        }
        return now.size >= PEOPLE ? FULL : now.join(kind, v);
    }

    public int thing(int person, int thing, int what, int n) {
        if (!now.has(person) || !isOfThree(thing) || what < 0 || what > 1) {
            return NONE;
        }
        if (n < 0 || n > (what == 0 ? 99 : 9)) {
            return BAD;
        }
        int[] row = what == 0 ? now.seats[person].likely : now.seats[person].lengths;
        int was = row[thing];
        row[thing] = n;
        return was;
    }

    public int lie(int person, int thing) {
        if (!now.has(person) || !isOfThree(thing)) {
            return NONE;
        }
        int was = now.seats[person].lie;
        now.seats[person].lie = thing;
        return was;
    }

    public int tells(int person, int first, int second) {
        if (!now.has(person) || !isOfThree(first) || !isOfThree(second)) {
            return NONE;
        }
        if (first == second) {
            return BAD;
        }
        now.seats[person].setOrder(first, second);
        return 1;
    }

    public int of(int person, int what) {
        return now.has(person) ? now.seats[person].known(what) : NONE;
    }

    public int row(int person, int part, int n) {
        if (!now.has(person) || part < 0 || part >= PARTS) {
            return NONE;
        }
        if (!isOfThree(n)) {
            return BAD;
        }
        Person one = now.seats[person];
        if (one.kind != TOLD) {
            return STATE;
        }
        int was = one.row[part];
        one.row[part] = n;
        return was;
    }

    public int feed(int sign) {
        if (sign < 0 || sign > 127) {
            return BAD;
        }
        return text.length >= TEXT ? FULL : text.append(sign);
    }

    public int evening() {
        if (eveningCount >= EVENINGS) {
            return FULL;
        }
        int fault = text.readInto(evenings[eveningCount]);
        text.length = 0;
        if (fault >= 0) {
            return FAULTY - fault;
        }
        now.evening = eveningCount;
        eveningCount++;
        return now.evening;
    }

    public int told(int what) {
        switch (what) {
            case 0:
                return now.round;
            case 1:
                return held().hands;
            default:
                return NONE;
        }
    }

    public int doubt(int person, int teller, int place) {
        if (!now.has(person) || !now.has(teller) || !isOfThree(place)) {
            return LOWER + NONE;
        }
        if (person == teller) {
            return LOWER + BAD;
        }
        return held().doubtOf(now.seats[person], now.seats[teller], place);
    }

    // ---- rounds

    public int round(int teller) {
        if (!now.has(teller)) {
            return NONE;
        }
        return now.round >= LAST_ROUND ? STATE : playForPoints(now, teller);
    }

    public int guess(int person, int teller) {
        if (!now.has(person) || !now.has(teller)) {
            return NONE;
        }
        if (person == teller) {
            return BAD;
        }
        playAsEver(now, teller);
        return play.guessed[person];
    }

    public int hands(int teller, int what) {
        if (!now.has(teller) || what < 0 || what > THREE) {
            return NONE;
        }
        int takenIn = playAsEver(now, teller);
        return what == THREE ? takenIn : play.raised[what];
    }

    // ---- how to tell

    public int order(int teller, int what) {
        if (!now.has(teller) || what < 0 || what > THREE) {
            return NONE;
        }
        trial.become(now);
        int most = -1;
        int found = 0;
        for (int o = 0; o < ORDERS; o++) {
            trial.seats[teller].setOrder(ORDER_ROWS[o * THREE], ORDER_ROWS[o * THREE + 1]);
            int takenIn = playAsEver(trial, teller);
            if (takenIn > most) {
                most = takenIn;
                found = o;
            }
        }
        return what == 0 ? most : ORDER_ROWS[found * THREE + what - 1];
    }

    public int likely(int teller, int what) {
        if (!now.has(teller) || what < 0 || what > 1) {
            return NONE;
        }
        trial.become(now);
        Person one = trial.seats[teller];
        int most = -1;
        int found = 0;
        for (int likely = 0; likely <= 99; likely += 9) {
            one.likely[one.lie] = likely;
            int takenIn = playAsEver(trial, teller);
            if (takenIn > most) {
                most = takenIn;
                found = likely;
            }
        }
        return what == 0 ? found : most;
    }

    public int best(int teller, int what) {
        if (!now.has(teller) || what < 0 || what > 1) {
            return NONE;
        }
        trial.become(now);
        int most = -1;
        int found = 0;
        for (int thing = 0; thing < THREE; thing++) {
            trial.seats[teller].lie = thing;
            int takenIn = playAsEver(trial, teller);
            if (takenIn > most) {
                most = takenIn;
                found = thing;
            }
        }
        return what == 0 ? found : most;
    }

    // ---- who guesses when

    public int first(int person, int teller, int place) {
        if (!now.has(person) || !now.has(teller) || !isOfThree(place)) {
            return NONE;
        }
        if (person == teller) {
            return BAD;
        }
        playAsEver(now, teller);
        System.arraycopy(play.guessed, 0, guessedBefore, 0, PEOPLE);
        play.lowerHands();
        play.raised[place]++;
        int otherwise = 0;
        for (int g = 0; g < now.size; g++) {
            if (g != teller && g != person && play.letGuess(g) != guessedBefore[g]) {
                otherwise++;
            }
        }
        return otherwise;
    }

    public int line(int teller, int k) {
        if (!now.has(teller) || k < -1 || k >= LINE - 1) {
            return NONE;
        }
        if (now.size > LINE) {
            return TOO_MANY;
        }
        if (k >= now.size - 1) {
            return NO_ONE_SUCH;
        }
        int fewest = seekLine(teller);
        return k < 0 ? fewest : rowFound[k];
    }

    public int worth(int person) {
        if (!now.has(person)) {
            return LOWER + NONE;
        }
        Person one = now.seats[person];
        if (!isOfKind(one.kind, FRIEND)) {
            return LOWER + STATE;
        }
        int more = 0;
        for (int t = 0; t < now.size; t++) {
            if (t == person) {
                continue;
            }
            playAsEver(now, t);
            if (play.guessed[person] == play.placeOfLie) {
                more++;
            }
            if (guessOfGuest(one, now.seats[t]) == play.placeOfLie) {
                more--;
            }
        }
        return more;
    }

    public int see(int place, int n) {
        if (!isOfThree(place)) {
            return NONE;
        }
        if (n < 0 || n > 5) {
            return BAD;
        }
        int was = now.seen[place];
        now.seen[place] = n;
        return was;
    }

    public int lies(int teller) {
        if (!now.has(teller)) {
            return NONE;
        }
        trial.become(now);
        int bits = 0;
        for (int thing = 0; thing < THREE; thing++) {
            trial.seats[teller].lie = thing;
            playAsEver(trial, teller);
            if (play.isRaised(now.seen)) {
                bits |= 1 << thing;
            }
        }
        return bits;
    }

    public int ends(int person, int n, int what) {
        if (!now.has(person) || what < 0 || what > 1) {
            return NONE;
        }
        if (n < 0 || n > ROUNDS_AHEAD) {
            return BAD;
        }
        trial.become(now);
        for (int i = 0; i < n && trial.size > 0; i++) {
            playForPoints(trial, trial.round % trial.size);
        }
        return what == 0 ? trial.seats[person].points : trial.leader();
    }

    // ---- odds, books

    public long odds(int teller, int part) {
        if (!now.has(teller) || part < 0 || part > 1) {
            return NO;
        }
        int cases = 0;
        for (int thing = 0; thing < THREE; thing++) {
            trial.become(now);
            trial.seats[teller].likely[thing] = 50;
            int takenIn = playAsEver(trial, teller);
            if (takenIn > now.size - 1 - takenIn) {
                cases++;
            }
        }
        return partOfFraction(cases, THREE, part);
    }

    public long mean(int part) {
        if (now.size == 0 || part < 0 || part > 1) {
            return NO;
        }
        int together = 0;
        for (int t = 0; t < now.size; t++) {
            together += playAsEver(now, t);
        }
        return partOfFraction(together, now.size, part);
    }

    public int book(int teller, int person, int place) {
        if (teller == -1) {
            now.bookRows = 0;
            return 0;
        }
        if (!now.has(teller) || !now.has(person) || !isOfThree(place)) {
            return NONE;
        }
        if (teller == person) {
            return BAD;
        }
        return now.bookRows >= BOOK_ROWS ? FULL : now.write(teller, person, place);
    }

    public int looked() {
        for (int r = 0; r < now.bookRows; r++) {
            playAsEver(now, now.book[r * THREE]);
            if (play.guessed[now.book[r * THREE + 1]] != now.book[r * THREE + 2]) {
                return r;
            }
        }
        return NO_ONE_SUCH;
    }

    // ---- judging, the image, acts, tapes

    public int judge(int tape, int i) {
        if (!tapes.has(tape)) {
            return NONE;
        }
        if (tapes.holds(tape) && tapes.sort[tape] != Tapes.SHORTS) {
            return CAST;
        }
        // A TAPE that holds nothing has no places at all, so it ends ahead of the first look.
        int left = i < 0 || i > tapes.size[tape] ? 0 : tapes.size[tape] - i;
        for (int p = 0; p < now.size; p++) {
            if (p >= left) {
                return JUDGED + p;
            }
            if (tapes.at(tape, i + p) != now.seats[p].points) {
                return p;
            }
        }
        return NO_ONE_SUCH;
    }

    public int image() {
        image.become(now);
        hasImage = true;
        return now.size;
    }

    public int undo() {
        if (!hasImage) {
            return STATE;
        }
        now.become(image);
        return now.size;
    }

    public int act(int person, int act, int x) {
        acts.ran = 0;
        if (!now.has(person) || act < 0 || act >= Acts.ACTS) {
            return 0;
        }
        return acts.run(now.seats[person], act, x);
    }

    public int trace(int i) {
        return i < 0 || i >= acts.ran || i >= Acts.KEPT ? NONE : acts.trace[i];
    }

    public int taken(int person, int k) {
        if (k < 0 || k >= KINDS) {
            return BAD;
        }
        if (!now.has(person)) {
            return NOTHING;
        }
        int kind = now.seats[person].kind;
        return isOfKind(kind, k) ? kind : CAST;
    }

    public int count(int what) {
        switch (what) {
            case 0:
                return now.size;
            case 1:
                return eveningCount;
            case 2:
                return now.bookRows;
            case 3:
                return text.length;
            case 4:
                return acts.ran;
            default:
                return BAD;
        }
    }

    public int tape(int tape, int sort, int n) {
        if (!tapes.has(tape)) {
            return NONE;
        }
        if (sort == Tapes.EMPTY) {
            tapes.lay(tape, Tapes.EMPTY, 0);
            return 1;
        }
        if (sort < 0 || sort >= Tapes.SORTS || n > Tapes.LONGEST) {
            return BAD;
        }
        if (n < 0) {
            return SIZE;
        }
        tapes.lay(tape, sort, n);
        return 1;
    }

    public int item(int tape, int i, long v) {
        if (!tapes.has(tape)) {
            return NONE;
        }
        if (!tapes.holds(tape)) {
            return NOTHING;
        }
        if (!tapes.hasPlace(tape, i)) {
            return PLACE;
        }
        tapes.put(tape, i, v);
        return 1;
    }

    public long read(int tape, int i) {
        return tapes.has(tape) && tapes.hasPlace(tape, i) ? tapes.at(tape, i) : NO;
    }

    public int shift(int tape, int i, int other, int j, int n) {
        if (!tapes.has(tape) || !tapes.has(other)) {
            return NONE;
        }
        if (!tapes.holds(tape) || !tapes.holds(other)) {
            return NOTHING;
        }
        if (tapes.sort[tape] != tapes.sort[other]) {
            return CAST;
        }
        if (!tapes.hasPlaces(tape, i, n) || !tapes.hasPlaces(other, j, n)) {
            return PLACE;
        }
        tapes.copy(tape, i, other, j, n);
        return n;
    }

    // ---- what the calls share

    private static boolean isOfThree(int n) {
        return n >= 0 && n < THREE;
    }

    private static boolean isOfKind(int kind, int above) {
        int k = kind;
        for (int up = 0; up < KINDS && k >= 0; up++) {
            if (k == above) {
                return true;
            }
            k = KIND_ABOVE[k];
        }
        return false;
    }

    private static long partOfFraction(int above, int below, int part) {
        int by = 1;
        for (int d = 2; d <= below; d++) {
            if (above % d == 0 && below % d == 0) {
                by = d;
            }
        }
        return (part == 0 ? above : below) / by;
    }

    private Evening held() {
        return now.evening >= 0 && now.evening < EVENINGS ? evenings[now.evening] : without;
    }

    private int playAsEver(Party party, int teller) {
        play.begin(party, held(), teller);
        for (int g = 0; g < party.size; g++) {
            if (g != teller) {
                play.letGuess(g);
            }
        }
        return play.takenIn;
    }

    private int playForPoints(Party party, int teller) {
        int takenIn = playAsEver(party, teller);
        for (int g = 0; g < party.size; g++) {
            if (g != teller && play.guessed[g] == play.placeOfLie) {
                party.seats[g].points++;
            }
        }
        party.seats[teller].points += takenIn;
        party.round++;
        return takenIn;
    }

    private int guessOfGuest(Person one, Person teller) {
        int found = 0;
        int most = held().doubtOf(one, teller, 0);
        for (int place = 1; place < THREE; place++) {
            int weight = held().doubtOf(one, teller, place);
            if (weight > most) {
                most = weight;
                found = place;
            }
        }
        return found;
    }

    /** Leaves in rowFound the row by which the fewest are TAKEN IN, and says how many. */
    private int seekLine(int teller) {
        int n = 0;
        for (int g = 0; g < now.size && n < LINE; g++) {
            if (g != teller) {
                rowTried[n] = g;
                n++;
            }
        }
        play.begin(now, held(), teller);
        int fewest = PEOPLE;
        // 4 others have 24 orders.
        boolean more = true;
        for (int tries = 0; tries < 24 && more; tries++) {
            play.lowerHands();
            for (int k = 0; k < n; k++) {
                play.letGuess(rowTried[k]);
            }
            if (play.takenIn < fewest) {
                fewest = play.takenIn;
                System.arraycopy(rowTried, 0, rowFound, 0, n);
            }
            more = stepRow(rowTried, n);
        }
        return fewest;
    }

    /** Makes of the first n numbers the next row of the same ones: false, if there is none. */
    private static boolean stepRow(int[] row, int n) {
        int rise = n - 2;
        while (rise >= 0 && row[rise] > row[rise + 1]) {
            rise--;
        }
        if (rise < 0) {
            return false;
        }
        int swap = n - 1;
        while (swap > rise && row[swap] < row[rise]) {
            swap--;
        }
        exchange(row, rise, swap);
        for (int low = rise + 1, high = n - 1; low < high; low++, high--) {
            exchange(row, low, high);
        }
        return true;
    }

    private static void exchange(int[] row, int i, int j) {
        int was = row[i];
        row[i] = row[j];
        row[j] = was;
    }

    /** One of the PEOPLE. */
    private static final class Person {
        final int number;
        int kind;
        int v;
        int points;
        int lie;
        final int[] likely = new int[THREE];
        final int[] lengths = new int[THREE];
        final int[] order = new int[THREE];
        final int[] row = new int[PARTS];

        Person(int number) {
            this.number = number;
        }

        /** A seat may be taken anew after an undo(), so nothing of an earlier one may stay. */
        void begin(int itsKind, int itsV) {
            kind = itsKind;
            v = itsV;
            points = 0;
            lie = 0;
            for (int t = 0; t < THREE; t++) {
                likely[t] = 50;
                lengths[t] = 5;
                order[t] = t;
            }
            for (int part = 0; part < PARTS; part++) {
                row[part] = 0;
            }
        }

        void become(Person other) {
            kind = other.kind;
            v = other.v;
            points = other.points;
            lie = other.lie;
            System.arraycopy(other.likely, 0, likely, 0, THREE);
            System.arraycopy(other.lengths, 0, lengths, 0, THREE);
            System.arraycopy(other.order, 0, order, 0, THREE);
            System.arraycopy(other.row, 0, row, 0, PARTS);
        }

        void setOrder(int first, int second) {
            order[0] = first;
            order[1] = second;
            order[2] = THREE - first - second;
        }

        int placeOfLie() {
            return order[0] == lie ? 0 : order[1] == lie ? 1 : 2;
        }

        int known(int what) {
            switch (what) {
                case 0:
                    return kind;
                case 1:
                    return v;
                case 2:
                    return points;
                case 3:
                    return lie;
                default:
                    break;
            }
            if (isOfThree(what - 10)) {
                return order[what - 10];
            }
            if (isOfThree(what - 20)) {
                return likely[what - 20];
            }
            return isOfThree(what - 30) ? lengths[what - 30] : NONE;
        }
    }

    /** All that THE IMAGE keeps. */
    private static final class Party {
        final Person[] seats = new Person[PEOPLE];
        int size;
        int round;
        int evening = -1;
        final int[] seen = new int[THREE];
        final int[] book = new int[BOOK_ROWS * THREE];
        int bookRows;

        Party() {
            for (int p = 0; p < PEOPLE; p++) {
                seats[p] = new Person(p);
            }
        }

        boolean has(int person) {
            return person >= 0 && person < size;
        }

        int join(int kind, int v) {
            seats[size].begin(kind, v);
            size++;
            return size - 1;
        }

        int write(int teller, int person, int place) {
            book[bookRows * THREE] = teller;
            book[bookRows * THREE + 1] = person;
            book[bookRows * THREE + 2] = place;
            bookRows++;
            return bookRows;
        }

        int leader() {
            int found = 0;
            for (int p = 1; p < size; p++) {
                if (seats[p].points > seats[found].points) {
                    found = p;
                }
            }
            return found;
        }

        void become(Party other) {
            size = other.size;
            round = other.round;
            evening = other.evening;
            bookRows = other.bookRows;
            System.arraycopy(other.seen, 0, seen, 0, THREE);
            System.arraycopy(other.book, 0, book, 0, BOOK_ROWS * THREE);
            for (int p = 0; p < size; p++) {
                seats[p].become(other.seats[p]);
            }
        }
    }

    /**
     * The CLAUSES of one text, as words of a code that is run from its start to its end: tests lay down
     * whether they hold, ! & | work on what was laid down last, odd and sure take it up.
     */
    private static final class Evening {
        static final int LESS = 0, EQUAL = 1, MORE = 2, NOT = 3, AND = 4, OR = 5, ODD = 6, SURE = 7;
        static final String LETTERS = "gktpln";

        // A word is its op, its letter and its number, a byte each.
        private final int[] words = new int[TEXT];
        private int length;
        private final int[] values = new int[6];
        int hands = HANDS_WITHOUT;

        void clear() {
            length = 0;
            hands = HANDS_WITHOUT;
        }

        void append(int op, int letter, int number) {
            // Each word comes of a sign of its own, so there is always room.
            if (length < TEXT) {
                words[length] = op << 16 | letter << 8 | number;
                length++;
            }
        }

        int doubtOf(Person one, Person teller, int place) {
            int thing = teller.order[place];
            values[0] = one.number;
            values[1] = one.kind;
            values[2] = teller.number;
            values[3] = place;
            values[4] = teller.likely[thing] / 10;
            values[5] = teller.lengths[thing];
            return 99 - teller.likely[thing] + runClauses();
        }

        private int runClauses() {
            int sum = 0;
            // The truths laid down, a bit each, the last one lowest; never more than some ten at once.
            int truths = 0;
            for (int w = 0; w < length; w++) {
                int op = words[w] >> 16;
                int number = words[w] & 255;
                if (op <= MORE) {
                    truths = truths << 1 | (holds(op, words[w] >> 8 & 7, number) ? 1 : 0);
                } else if (op == NOT) {
                    truths ^= 1;
                } else {
                    boolean last = (truths & 1) == 1;
                    truths >>= 1;
                    if (op == AND && !last) {
                        truths &= ~1;
                    } else if (op == OR && last) {
                        truths |= 1;
                    } else if (op == ODD && last) {
                        sum += number;
                    } else if (op == SURE && last) {
                        sum -= number;
                    }
                }
            }
            return sum;
        }

        private boolean holds(int op, int letter, int number) {
            int value = letter < values.length ? values[letter] : 0;
            switch (op) {
                case LESS:
                    return value < number;
                case EQUAL:
                    return value == number;
                default:
                    return value > number;
            }
        }
    }

    /** THE TEXT, and how it is read: what reads a part stops ahead of the first sign that can't be there. */
    private static final class Text {
        private final int[] signs = new int[TEXT];
        int length;
        private int at;
        private int number;

        int append(int sign) {
            signs[length] = sign;
            length++;
            return length;
        }

        /** The FAULT, or -1 if THE TEXT is an EVENING, which is then the one given. */
        int readInto(Evening evening) {
            evening.clear();
            at = 0;
            boolean fine = readClause(evening);
            for (int clauses = 1; fine && clauses < CLAUSES && passes(';'); clauses++) {
                fine = readClause(evening);
            }
            return fine && at == length ? -1 : at;
        }

        private boolean readClause(Evening evening) {
            if (sees('h')) {
                if (!passesWord("hands ") || !readNumber()) {
                    return false;
                }
                evening.hands = number;
                return true;
            }
            boolean odd = sees('o');
            if (!passesWord(odd ? "odd " : "sure ") || !readNumber()) {
                return false;
            }
            int n = number;
            if (!passes(' ') || !readE(evening, 0)) {
                return false;
            }
            evening.append(odd ? Evening.ODD : Evening.SURE, 0, n);
            return true;
        }

        private boolean readE(Evening evening, int depth) {
            for (int parts = 0; parts < TEXT; parts++) {
                for (int factors = 0; factors < TEXT; factors++) {
                    if (!readF(evening, depth)) {
                        return false;
                    }
                    if (factors > 0) {
                        evening.append(Evening.AND, 0, 0);
                    }
                    if (!passes('&')) {
                        break;
                    }
                }
                if (parts > 0) {
                    evening.append(Evening.OR, 0, 0);
                }
                if (!passes('|')) {
                    return true;
                }
            }
            return false;
        }

        private boolean readF(Evening evening, int depth) {
            if (depth < NESTED && passes('!')) {
                if (!readF(evening, depth + 1)) {
                    return false;
                }
                evening.append(Evening.NOT, 0, 0);
                return true;
            }
            if (depth < NESTED && passes('(')) {
                return readE(evening, depth + 1) && passes(')');
            }
            return readTest(evening);
        }

        private boolean readTest(Evening evening) {
            int letter = at < length ? Evening.LETTERS.indexOf((char) signs[at]) : -1;
            if (letter < 0) {
                return false;
            }
            at++;
            int op = sees('<') ? Evening.LESS : sees('=') ? Evening.EQUAL : Evening.MORE;
            if (op == Evening.MORE && !sees('>')) {
                return false;
            }
            at++;
            if (!readNumber()) {
                return false;
            }
            evening.append(op, letter, number);
            return true;
        }

        private boolean readNumber() {
            if (!seesDigit()) {
                return false;
            }
            number = signs[at] - '0';
            at++;
            if (seesDigit()) {
                number = number * 10 + signs[at] - '0';
                at++;
            }
            return true;
        }

        private boolean passesWord(String word) {
            for (int i = 0; i < word.length(); i++) {
                if (!passes(word.charAt(i))) {
                    return false;
                }
            }
            return true;
        }

        private boolean passes(int sign) {
            if (at >= length || signs[at] != sign) {
                return false;
            }
            at++;
            return true;
        }

        private boolean sees(int sign) {
            return at < length && signs[at] == sign;
        }

        private boolean seesDigit() {
            return at < length && signs[at] >= '0' && signs[at] <= '9';
        }
    }

    /** One ROUND as it goes: begin() tells who tells, then one after another guesses. */
    private static final class Play {
        // WEIGHTS less what HANDS add, three for each of the PEOPLE: these stay while HANDS go up.
        private final int[] plain = new int[PEOPLE * THREE];
        private final int[] handCounts = new int[PEOPLE];
        private final boolean[] isSheep = new boolean[PEOPLE];
        final int[] raised = new int[THREE];
        final int[] guessed = new int[PEOPLE];
        int placeOfLie;
        int takenIn;

        void begin(Party party, Evening evening, int tellerNumber) {
            Person teller = party.seats[tellerNumber];
            placeOfLie = teller.placeOfLie();
            for (int g = 0; g < party.size; g++) {
                Person one = party.seats[g];
                handCounts[g] = isOfKind(one.kind, FOLLOWER) ? evening.hands : 0;
                isSheep[g] = one.kind == SHEEP;
                for (int place = 0; place < THREE && g != tellerNumber; place++) {
                    plain[g * THREE + place] =
                            evening.doubtOf(one, teller, place) + addedTo(one, teller, place, party);
                }
            }
            lowerHands();
        }

        /** What a KIND adds to the DOUBT, HANDS aside. */
        private int addedTo(Person one, Person teller, int place, Party party) {
            int more = 0;
            if (isOfKind(one.kind, READER)) {
                more += 2 * teller.lengths[teller.order[place]];
            }
            if (one.kind == SHARP && place == 2) {
                more += 30;
            }
            if (isOfKind(one.kind, FRIEND) && place == placeOfLie && knows(one, teller, party.size)) {
                more += 5 * one.v;
            }
            if (one.kind == TOLD && one.row[party.round % PARTS] == place) {
                more += 40;
            }
            return more;
        }

        private static boolean knows(Person friend, Person teller, int size) {
            return size > 0 && friend.v % size == teller.number;
        }

        void lowerHands() {
            takenIn = 0;
            for (int place = 0; place < THREE; place++) {
                raised[place] = 0;
            }
        }

        int letGuess(int g) {
            boolean handsAlone = isSheep[g] && raised[0] + raised[1] + raised[2] > 0;
            int found = 0;
            int most = 0;
            for (int place = 0; place < THREE; place++) {
                int weight = handCounts[g] * raised[place];
                if (!handsAlone) {
                    weight += plain[g * THREE + place];
                }
                if (place == 0 || weight > most) {
                    most = weight;
                    found = place;
                }
            }
            guessed[g] = found;
            raised[found]++;
            if (found != placeOfLie) {
                takenIn++;
            }
            return found;
        }

        boolean isRaised(int[] seen) {
            return raised[0] == seen[0] && raised[1] == seen[1] && raised[2] == seen[2];
        }
    }

    /** ACTS, and THE TRACE of the latest. */
    private static final class Acts {
        static final int DOUBTS = 0, GUESSES = 1, TELLS = 2;
        static final int ACTS = 3, KEPT = 20;
        // No act runs more than some dozen bodies, so none goes as deep as this.
        private static final int DEEPEST = 40;
        // For each KIND its bodies of the three ACTS; 0: it has none.
        private static final int[] BODIES = {
            10, 11, 12,
            0, 20, 0,
            30, 0, 0,
            0, 0, 40,
            50, 51, 0,
            0, 0, 60,
            71, 70, 0};

        final int[] trace = new int[KEPT];
        int ran;

        int run(Person one, int act, int x) {
            return perform(one, one.kind, act, x, 0);
        }

        /** Runs the body that the KIND from, or the next above it, has for an act. */
        private int perform(Person one, int from, int act, int x, int depth) {
            int kind = from;
            for (int up = 0; up < KINDS && kind > GUEST && BODIES[kind * ACTS + act] == 0; up++) {
                kind = KIND_ABOVE[kind];
            }
            if (kind < GUEST || depth > DEEPEST) {
                return 0;
            }
            int body = BODIES[kind * ACTS + act];
            if (ran < KEPT) {
                trace[ran] = body;
            }
            ran++;
            return runBody(body, one, KIND_ABOVE[kind], x, depth + 1);
        }

        private int runBody(int body, Person one, int above, int x, int depth) {
            switch (body) {
                case 10:
                    return x + one.number;
                case 11:
                    return perform(one, one.kind, DOUBTS, x, depth) - one.v;
                case 12:
                    return perform(one, one.kind, GUESSES, x, depth) * 2;
                case 20:
                    return perform(one, above, GUESSES, x, depth) ^ 6;
                case 30:
                    return perform(one, above, DOUBTS, x * 3, depth);
                case 40:
                    return perform(one, above, TELLS, x, depth) + perform(one, one.kind, GUESSES, 1, depth);
                case 50:
                    return -perform(one, above, DOUBTS, x, depth);
                case 51:
                    return perform(one, above, GUESSES, x + 1, depth);
                case 60:
                    return perform(one, above, TELLS, x - one.number, depth);
                case 70:
                    return perform(one, above, GUESSES, x, depth) + perform(one, above, DOUBTS, 2, depth);
                case 71:
                    return perform(one, above, DOUBTS, x, depth) ^ one.v;
                default:
                    return 0;
            }
        }
    }

    /** All TAPES, in one row of the widest items; each item is cut to its sort as it comes. */
    private static final class Tapes {
        static final int EMPTY = -1, BYTES = 0, SHORTS = 1, INTS = 2, LONGS = 3;
        static final int SORTS = 5, TAPES = 6, LONGEST = 60;

        final int[] sort = new int[TAPES];
        final int[] size = new int[TAPES];
        private final long[] items = new long[TAPES * LONGEST];

        Tapes() {
            for (int tape = 0; tape < TAPES; tape++) {
                sort[tape] = EMPTY;
            }
        }

        boolean has(int tape) {
            return tape >= 0 && tape < TAPES;
        }

        boolean holds(int tape) {
            return sort[tape] != EMPTY;
        }

        boolean hasPlace(int tape, int i) {
            return i >= 0 && i < size[tape];
        }

        boolean hasPlaces(int tape, int i, int n) {
            return n >= 0 && i >= 0 && i <= size[tape] - n;
        }

        void lay(int tape, int itsSort, int n) {
            sort[tape] = itsSort;
            size[tape] = n;
            for (int i = 0; i < n; i++) {
                items[tape * LONGEST + i] = 0;
            }
        }

        long at(int tape, int i) {
            return items[tape * LONGEST + i];
        }

        void put(int tape, int i, long v) {
            items[tape * LONGEST + i] = cut(sort[tape], v);
        }

        private static long cut(int sort, long v) {
            switch (sort) {
                case BYTES:
                    return (byte) v;
                case SHORTS:
                    return (short) v;
                case INTS:
                    return (int) v;
                case LONGS:
                    return v;
                default:
                    return v != 0 ? 1 : 0;
            }
        }

        void copy(int tape, int i, int other, int j, int n) {
            System.arraycopy(items, tape * LONGEST + i, items, other * LONGEST + j, n);
        }
    }
}
