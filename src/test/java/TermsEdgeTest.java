/**
 * A test for each sentence of "Terms" that names a boundary case: what is smallest, largest, empty, full, alike,
 * wrapped around. Each names its sentence, word for word; all is reckoned by hand.
 */
public final class TermsEdgeTest extends Asking {
    private static final int DOUBTS = 0, GUESSES = 1, TELLS = 2;

    private TermsEdgeTest() { }

    public static void main(String[] args) {
        calls();
        people();
        rounds();
        asked();
        acts();
        judging();
        Check.end("TermsEdgeTest");
    }

    private static void calls() {
        says("What it is, promises 1 to 38", "An object is used for at most 512 calls after it has been made");
        TwoTrue x = with(GUEST, GUEST);
        for (int call = 3; call <= 511; call++) {
            x.round(0);
        }
        due("the 512th call", x.told(0), 509);
    }

    // ---- 1: people, the text, rounds

    private static void people() {
        numbers();
        kinds();
        numbersV();
        pointsAtFirst();
        things();
        lieAtFirst();
        orderAtFirst();
        places();
        roundAtFirst();
    }

    private static void numbers() {
        says("Terms 1, promise 2", "PEOPLE 0 .. 5, as they come");
        int[] kinds = {TOLD, GUEST, SHEEP, READER, SHARP, FOLLOWER};
        TwoTrue x = new TwoTrue();
        due("nobody yet", x.of(0, 0), -1);
        for (int p = 0; p < 6; p++) {
            due("the number of who comes", x.person(kinds[p], p), p);
            due("nobody behind", x.of(p + 1, 0), -1);
        }
        for (int p = 0; p < 6; p++) {
            due("kind of " + p, x.of(p, 0), kinds[p]);
        }
        due("a seventh", x.person(GUEST, 0), -4);
        due("nobody at 6", x.of(6, 0), -1);
        due("nobody at -1", x.of(-1, 0), -1);
    }

    private static void kinds() {
        says("Terms 1, promises 2, 33", "0 GUEST; 1 READER, 2 FOLLOWER, 3 FRIEND under GUEST; 4 SHARP under READER; "
                + "5 SHEEP under FOLLOWER; 6 TOLD under FRIEND");
        String[] above = {"0", "10", "20", "30", "410", "520", "630"};
        for (int kind = 0; kind < 7; kind++) {
            TwoTrue x = with(kind);
            for (int k = 0; k < 7; k++) {
                due(kind + " for " + k, x.taken(0, k), above[kind].indexOf('0' + k) >= 0 ? kind : -12);
            }
        }
    }

    private static void numbersV() {
        says("Terms 1, promise 2", "with a number v (0 .. 9)");
        for (int v = 0; v <= 9; v++) {
            TwoTrue x = new TwoTrue();
            due("v " + v, x.person(READER, v), 0);
            due("v " + v, x.of(0, 1), v);
        }
        due("v -1", new TwoTrue().person(READER, -1), -2);
        due("v 10", new TwoTrue().person(READER, 10), -2);
    }

    private static void pointsAtFirst() {
        says("Terms 1, promises 2, 6", "POINTS (0 at first)");
        TwoTrue x = with(GUEST, GUEST);
        x.round(0);
        due("who comes later", x.person(GUEST, 9), 2);
        due("has none", x.of(2, 2), 0);
        due("points of 1, right at once", x.of(1, 2), 1);
    }

    private static void things() {
        says("Terms 1, promises 3, 6", "each has three THINGS 0 .. 2 to tell, each LIKELY (0 .. 99) and LONG (0 .. 9) "
                + "(50 and 5 at first)");
        for (int thing = 0; thing < 3; thing++) {
            TwoTrue x = with(GUEST, GUEST);
            due("LIKELY at first", x.of(1, 20 + thing), 50);
            due("LONG at first", x.of(1, 30 + thing), 5);
            due("the least LIKELY", x.thing(1, thing, 0, 0), 50);
            due("the most LIKELY", x.thing(1, thing, 0, 99), 0);
            due("is", x.of(1, 20 + thing), 99);
            due("the least LONG", x.thing(1, thing, 1, 0), 5);
            due("the most LONG", x.thing(1, thing, 1, 9), 0);
            due("is", x.of(1, 30 + thing), 9);
            for (int other = 0; other < 3; other++) {
                due("LIKELY of " + other, x.of(1, 20 + other), other == thing ? 99 : 50);
                due("LONG of " + other, x.of(1, 30 + other), other == thing ? 9 : 5);
                due("LIKELY of another one's " + other, x.of(0, 20 + other), 50);
            }
        }
        TwoTrue x = with(GUEST);
        due("thing -1", x.thing(0, -1, 0, 0), -1);
        due("thing 3", x.thing(0, 3, 0, 0), -1);
        due("LIKELY -1", x.thing(0, 0, 0, -1), -2);
        due("LIKELY 100", x.thing(0, 0, 0, 100), -2);
        due("LONG -1", x.thing(0, 0, 1, -1), -2);
        due("LONG 10", x.thing(0, 0, 1, 10), -2);
    }

    private static void lieAtFirst() {
        says("Terms 1, promises 4, 6", "one of these is the LIE (0 at first)");
        TwoTrue x = with(GUEST, GUEST);
        due("at first", x.of(1, 3), 0);
        due("what it was", x.lie(1, 2), 0);
        due("the last thing", x.of(1, 3), 2);
        due("of another one", x.of(0, 3), 0);
    }

    private static void orderAtFirst() {
        says("Terms 1, promises 5, 6", "and an ORDER in which it tells them (0, 1, 2 at first)");
        TwoTrue x = with(GUEST, GUEST);
        for (int place = 0; place < 3; place++) {
            due("at first, " + place, x.of(1, 10 + place), place);
        }
        due("the last row", x.tells(1, 2, 1), 1);
        for (int place = 0; place < 3; place++) {
            due("then, " + place, x.of(1, 10 + place), 2 - place);
        }
    }

    private static void places() {
        says("Terms 1, promises 11, 13", "PLACES 0 .. 2 are first, second, third told.");
        TwoTrue x = with(GUEST, GUEST);
        likely(x, 0, 11, 22, 33);
        x.tells(0, 1, 2);
        due("first told", x.doubt(1, 0, 0), 77);
        due("second told", x.doubt(1, 0, 1), 66);
        due("third told", x.doubt(1, 0, 2), 88);
        due("place -1", x.doubt(1, 0, -1), -1001);
        due("place 3", x.doubt(1, 0, 3), -1001);
    }

    private static void roundAtFirst() {
        says("Terms 1, promise 10", "ROUND: 0 at first.");
        due("at first", new TwoTrue().told(0), 0);
        TwoTrue x = with(GUEST);
        due("as one came", x.told(0), 0);
    }

    // ---- 1: rounds

    private static void rounds() {
        byNumbers();
        guest();
        reader();
        follower();
        friend();
        friendModulo();
        sharp();
        sheep();
        told();
        ofSeveralTheFirst();
        points();
        oneMore();
    }

    private static void byNumbers() {
        says("Terms 1, promises 12 to 14", "A ROUND: one tells; all others guess, by numbers, each seeing the HANDS "
                + "(for each PLACE how many have guessed it already).");
        // 1 to 4 guess place 2; of 5 (FOLLOWER, 10 a hand) place 0 weighs 88 + odd, place 2 weighs 59 + 40.
        TwoTrue x = with(GUEST, SHARP, SHARP, SHARP, SHARP, FOLLOWER);
        likely(x, 0, 11, 50, 40);
        lengths(x, 0, 0, 0, 0);
        read(x, "odd 10 g=5&p=0");
        due("the last sees all four hands: 98 to 99", x.guess(5, 0), 2);
        read(x, "odd 11 g=5&p=0");
        due("and no fifth: 99 to 99", x.guess(5, 0), 0);
        due("hands at 0", x.hands(0, 0), 1);
        due("hands at 2", x.hands(0, 2), 4);
        // The first sees none, though it would follow any.
        x = with(SHEEP, SHARP, SHARP, SHARP, SHARP, GUEST);
        likely(x, 5, 11, 50, 40);
        lengths(x, 5, 0, 0, 0);
        due("the first sees no hand", x.guess(0, 5), 0);
        // Who tells raises no hand, and is passed over in the midst.
        x = with(SHARP, SHARP, SHEEP, SHEEP);
        likely(x, 1, 11, 50, 40);
        lengths(x, 1, 0, 0, 0);
        due("hands in the end", x.hands(1, 2), 3);
        due("the last", x.guess(3, 1), 2);
        // Alone: nobody guesses.
        x = with(SHEEP);
        for (int place = 0; place < 3; place++) {
            due("no hands", x.hands(0, place), 0);
        }
    }

    private static void guest() {
        says("Terms 1, promise 13", "GUEST: DOUBT about the THING there.");
        TwoTrue x = with(GUEST, GUEST);
        likely(x, 0, 50, 49, 50);
        due("more by one", x.guess(1, 0), 1);
        likely(x, 0, 50, 50, 50);
        lengths(x, 0, 0, 9, 9);
        due("nothing but that", x.guess(1, 0), 0);
        likely(x, 0, 99, 99, 98);
        due("1 to 0", x.guess(1, 0), 2);
    }

    private static void reader() {
        says("Terms 1, promise 13", "READER: as GUEST, and twice LONG.");
        TwoTrue x = with(GUEST, READER);
        likely(x, 0, 50, 68, 99);
        lengths(x, 0, 0, 9, 0);
        due("49 to 31 + 18", x.guess(1, 0), 0);
        x.thing(0, 1, 0, 67);
        due("49 to 32 + 18", x.guess(1, 0), 1);
        // LONG is of the THING that is told there.
        x.tells(0, 2, 0);
        due("told third", x.guess(1, 0), 2);
        likely(x, 0, 99, 99, 99);
        lengths(x, 0, 0, 0, 1);
        due("0 and 2 to 0", x.guess(1, 0), 0);
    }

    private static void follower() {
        says("Terms 1, promise 13", "FOLLOWER: as GUEST, and hands for each of the HANDS of that PLACE.");
        TwoTrue x = with(GUEST, SHARP, FOLLOWER);
        likely(x, 0, 50, 50, 60);
        due("one hand: 49 to 39 + 10", x.guess(2, 0), 0);
        x.thing(0, 2, 0, 59);
        due("one hand: 49 to 40 + 10", x.guess(2, 0), 2);
        read(x, "hands 0");
        due("hands 0", x.guess(2, 0), 0);
        read(x, "hands 9");
        due("hands 9: 49 to 49", x.guess(2, 0), 0);
        likely(x, 0, 0, 99, 70);
        read(x, "hands 99;odd 99 p=2&g=1;sure 30 p=2&g=2");
        due("hands 99: 99 to 98", x.guess(2, 0), 0);
        x.thing(0, 2, 0, 68);
        due("hands 99: 99 to 100", x.guess(2, 0), 2);
        // A FOLLOWER goes by more than HANDS, be there any.
        x = with(GUEST, SHARP, FOLLOWER);
        likely(x, 0, 20, 50, 50);
        due("79 to 49 + 10", x.guess(2, 0), 0);
    }

    private static void friend() {
        says("Terms 1, promise 13", "FRIEND: as GUEST, and 5 times v for the PLACE of the LIE");
        for (int v = 0; v <= 9; v++) {
            TwoTrue x = new TwoTrue();
            x.person(v % 2 == 0 ? GUEST : FRIEND, v);
            x.person(v % 2 == 0 ? FRIEND : GUEST, v);
            int t = v % 2;
            x.lie(t, 2);
            likely(x, t, 50, 50, 50 + 5 * v);
            due("5 times " + v + " is as much", x.guess(1 - t, t), 0);
            x.thing(t, 2, 0, 49 + 5 * v);
            due("and one more", x.guess(1 - t, t), 2);
            x.lie(t, 1);
            due("the lie at place 1", x.guess(1 - t, t), v == 0 ? 2 : 1);
        }
        for (int n = 0; n < 9; n++) {
            int lie = n / 3;
            int other = n % 3;
            if (lie == other) {
                continue;
            }
            // v 8 of 2 is 0: 40 for the place of the lie alone, whichever it is.
            TwoTrue x = new TwoTrue();
            x.person(GUEST, 0);
            x.person(FRIEND, 8);
            x.lie(0, lie);
            likely(x, 0, 99, 99, 99);
            x.thing(0, lie, 0, 60);
            x.thing(0, other, 0, 21);
            due("lie at " + lie + ": 79 to 78 at " + other, x.guess(1, 0), lie);
            x.thing(0, other, 0, 20);
            due("lie at " + lie + ": 79 to 79 at " + other, x.guess(1, 0), Math.min(lie, other));
            x.thing(0, other, 0, 19);
            due("lie at " + lie + ": 79 to 80 at " + other, x.guess(1, 0), other);
        }
    }

    private static void friendModulo() {
        says("Terms 1, promise 13", "if the number of who tells is v modulo how many PEOPLE there are");
        for (int many = 2; many <= 6; many++) {
            for (int v = 1; v <= 9; v++) {
                TwoTrue x = new TwoTrue();
                for (int p = 0; p < many - 1; p++) {
                    x.person(GUEST, 0);
                }
                x.person(FRIEND, v);
                for (int t = 0; t < many - 1; t++) {
                    x.lie(t, 1);
                    due("v " + v + " of " + many + ", " + t + " tells", x.guess(many - 1, t), t == v % many ? 1 : 0);
                }
            }
        }
    }

    private static void sharp() {
        says("Terms 1, promise 13", "SHARP: as READER, and 30 more for PLACE 2.");
        TwoTrue x = with(GUEST, SHARP);
        likely(x, 0, 50, 99, 80);
        due("59 to 29 + 30", x.guess(1, 0), 0);
        x.thing(0, 2, 0, 79);
        due("59 to 30 + 30", x.guess(1, 0), 2);
        x.thing(0, 0, 1, 6);
        due("as a reader: 61 to 60", x.guess(1, 0), 0);
        x.tells(0, 2, 1);
        due("30 for the place, not the thing", x.guess(1, 0), 2);
    }

    private static void sheep() {
        says("Terms 1, promise 13",
                "SHEEP: as FOLLOWER, but if there are any HANDS at all, hands for each of that PLACE alone.");
        TwoTrue x = with(GUEST, SHEEP, SHEEP);
        likely(x, 0, 99, 99, 0);
        due("no hands: by doubt", x.guess(1, 0), 2);
        read(x, "sure 99 p=2&g=1;odd 1 p=1&g=1");
        due("no hands: by doubt", x.guess(1, 0), 1);
        due("one hand: 10 to 99", x.guess(2, 0), 1);
        read(x, "hands 1;sure 99 p=2&g=1;odd 1 p=1&g=1");
        due("one hand by 1", x.guess(2, 0), 1);
        read(x, "hands 0");
        due("no hands, hands 0: by doubt", x.guess(1, 0), 2);
        due("one hand, hands 0: all alike, the first", x.guess(2, 0), 0);
        for (int place = 0; place < 3; place++) {
            // 2 doubts the others by 50 more, but sees one hand, there.
            x = with(GUEST, GUEST, SHEEP);
            read(x, "odd 1 g=1&p=" + place + ";odd 50 g=2&!p=" + place);
            due("one hand at " + place, x.guess(2, 0), place);
        }
        x = with(GUEST, GUEST, SHARP, SHEEP);
        likely(x, 0, 50, 40, 42);
        due("one hand at 1, one at 2: the first of them", x.guess(3, 0), 1);
    }

    private static void told() {
        says("Terms 1, promises 7, 13", "TOLD: as FRIEND, and 40 more for the PLACE that its ROW (four numbers 0 .. 2; "
                + "0 at first) tells at ROUND modulo 4.");
        TwoTrue x = with(GUEST, TOLD);
        likely(x, 0, 90, 50, 50);
        due("0 at first: 9 + 40 to 49", x.guess(1, 0), 0);
        x.thing(0, 0, 0, 91);
        due("0 at first: 8 + 40 to 49", x.guess(1, 0), 1);
        likely(x, 0, 50, 50, 89);
        int[] row = {0, 2, 1, 2};
        for (int part = 0; part < 4; part++) {
            due("0 at first", x.row(1, part, row[part]), 0);
        }
        for (int r = 0; r < 9; r++) {
            // Place 2 weighs 10 + 40 to 49, place 1 49 + 40.
            due("at round " + r, x.guess(1, 0), row[r % 4]);
            x.thing(0, 2, 0, 90);
            due("less by one, at round " + r, x.guess(1, 0), row[r % 4] == 2 ? 0 : row[r % 4]);
            x.thing(0, 2, 0, 89);
            x.round(0);
        }
        // As a FRIEND: v 8 of 2 is 0: 40 for the LIE, too.
        x = new TwoTrue();
        x.person(GUEST, 0);
        x.person(TOLD, 8);
        x.lie(0, 2);
        due("40 at 0, 40 at 2: the first", x.guess(1, 0), 0);
        x.thing(0, 2, 0, 49);
        due("40 at 0, 41 at 2", x.guess(1, 0), 2);
        x.row(1, 0, 2);
        likely(x, 0, 0, 0, 79);
        due("both at 2: 20 + 80 to 99", x.guess(1, 0), 2);
        x.thing(0, 2, 0, 80);
        due("both at 2: 19 + 80 to 99", x.guess(1, 0), 0);
    }

    private static void ofSeveralTheFirst() {
        says("Terms 1, promise 13", "It guesses the PLACE with most WEIGHT (of several the first).");
        int[][] rows = {{50, 50, 50, 0}, {50, 50, 51, 0}, {50, 51, 50, 0}, {51, 50, 50, 1}, {51, 51, 50, 2},
            {51, 50, 51, 1}, {50, 51, 51, 0}, {52, 51, 50, 2}, {50, 51, 52, 0}, {51, 50, 52, 1}, {99, 99, 99, 0},
            {0, 0, 0, 0}, {99, 99, 98, 2}, {1, 0, 0, 1}};
        for (int below = 0; below < 2; below++) {
            for (int[] row : rows) {
                TwoTrue x = with(GUEST, GUEST);
                likely(x, 0, row[0], row[1], row[2]);
                if (below == 1) {
                    read(x, "sure 99 p<3;sure 99 p<9");
                    due("all below 0", x.doubt(1, 0, 0), 99 - row[0] - 198);
                }
                due("of " + row[0] + ", " + row[1] + ", " + row[2], x.guess(1, 0), row[3]);
            }
        }
    }

    private static void points() {
        says("Terms 1, promise 12", "Who guesses the PLACE of the LIE has 1 POINT more; who tells has 1 more for each "
                + "who does not (is TAKEN IN).");
        TwoTrue x = with(GUEST, GUEST, GUEST, GUEST, GUEST, GUEST);
        due("none is taken in", x.round(5), 0);
        for (int p = 0; p < 6; p++) {
            due("points of " + p, x.of(p, 2), p < 5 ? 1 : 0);
        }
        x.lie(5, 2);
        due("all are taken in", x.round(5), 5);
        for (int p = 0; p < 6; p++) {
            due("points of " + p, x.of(p, 2), p < 5 ? 1 : 5);
        }
        // 1 guesses place 0, 2 place 2; the lie is told at each place in turn.
        int[][] dues = {{1, 1, 0}, {2, 0, 0}, {1, 0, 1}};
        for (int place = 0; place < 3; place++) {
            x = with(GUEST, GUEST, SHARP);
            x.lie(0, place);
            due("taken in, the lie at " + place, x.round(0), dues[place][0]);
            for (int p = 0; p < 3; p++) {
                due("points of " + p + ", the lie at " + place, x.of(p, 2), dues[place][p]);
            }
        }
        x = with(GUEST);
        due("alone", x.round(0), 0);
        due("alone, points", x.of(0, 2), 0);
        x.lie(0, 1);
        due("alone", x.round(0), 0);
        due("alone, points", x.of(0, 2), 0);
    }

    private static void oneMore() {
        says("Terms 1, promises 10, 12", "Then ROUND is 1 more.");
        TwoTrue x = with(GUEST, TOLD);
        x.row(1, 1, 1);
        due("in round 0 by its row for 0", x.round(0), 0);
        due("round", x.told(0), 1);
        due("in round 1 by its row for 1", x.round(0), 1);
        due("round", x.told(0), 2);
    }

    // ---- 2: what is asked

    private static void asked() {
        changesNothing();
        handsInTheEnd();
        orderTheFirst();
        likelyTheLeast();
        bestTheFirst();
        firstAndNotAgain();
        lineOfFive();
        lineTheFirst();
        worthBelowNull();
        liesAsBits();
        endsBeyond();
        oddsLowest();
        meanLowest();
        lookedFirst();
    }

    private static void changesNothing() {
        says("Terms 2, promises 13 to 27", "All that follows is asked, and changes nothing.");
        for (int t = -1; t <= 6; t++) {
            int p = t;
            for (int what = -1; what <= 4; what++) {
                int w = what;
                Twins.unmoved("order", Twins::few, x -> x.order(p, w));
                Twins.unmoved("likely", Twins::few, x -> x.likely(p, w));
                Twins.unmoved("best", Twins::few, x -> x.best(p, w));
                Twins.unmoved("line", Twins::few, x -> x.line(p, w));
                Twins.unmoved("hands", Twins::few, x -> x.hands(p, w));
                Twins.unmoved("guess", Twins::few, x -> x.guess(p, w));
                Twins.unmoved("odds", Twins::few, x -> x.odds(p, w));
                Twins.unmoved("ends", Twins::few, x -> x.ends(p, 30, w));
                Twins.unmoved("first", Twins::few, x -> x.first(p, 1, w));
                Twins.unmoved("doubt", Twins::few, x -> x.doubt(p, 1, w));
            }
            Twins.unmoved("worth", Twins::few, x -> x.worth(p));
            Twins.unmoved("lies", Twins::few, x -> x.lies(p));
            Twins.unmoved("ends", Twins::full, x -> x.ends(p, 29, 1));
            Twins.unmoved("order", Twins::full, x -> x.order(p, 0));
            Twins.unmoved("likely", Twins::full, x -> x.likely(p, 0));
            Twins.unmoved("best", Twins::full, x -> x.best(p, 0));
            Twins.unmoved("lies", Twins::full, x -> x.lies(p));
            Twins.unmoved("odds", Twins::full, x -> x.odds(p, 0));
            Twins.unmoved("worth", Twins::full, x -> x.worth(p));
            Twins.unmoved("first", Twins::full, x -> x.first(p, 3, 1));
            Twins.unmoved("line", Twins::full, x -> x.line(p, 0));
        }
        Twins.unmoved("mean", Twins::few, x -> x.mean(0));
        Twins.unmoved("looked", Twins::few, x -> x.looked());
        Twins.unmoved("mean", Twins::full, x -> x.mean(1));
        Twins.unmoved("looked", Twins::full, x -> x.looked());
    }

    private static void handsInTheEnd() {
        says("Terms 2, promise 14", "HANDS of each PLACE in the end; how many are TAKEN IN.");
        for (int many = 1; many <= 6; many++) {
            for (int place = 0; place < 3; place++) {
                for (int lie = 0; lie < 3; lie++) {
                    TwoTrue x = new TwoTrue();
                    for (int p = 0; p < many; p++) {
                        x.person(p % 2 == 0 ? SHEEP : GUEST, 0);
                    }
                    likely(x, 0, 50, 50, 50);
                    x.thing(0, place, 0, 49);
                    x.lie(0, lie);
                    for (int what = 0; what < 3; what++) {
                        due("the last hand, too, at " + what, x.hands(0, what), what == place ? many - 1 : 0);
                    }
                    due("none or all are taken in", x.hands(0, 3), lie == place ? 0 : many - 1);
                }
            }
        }
    }

    private static void orderTheFirst() {
        says("Terms 2, promise 15", "ORDER of one: of all six orders of its THINGS that by which most are TAKEN IN "
                + "(of several the first as a row)");
        // Alike likely: who guesses, guesses place 0: most are taken in, if the lie is not told first.
        int[][] rows = {{1, 0, 2}, {0, 1, 2}, {0, 1, 2}};
        for (int lie = 0; lie < 3; lie++) {
            TwoTrue x = with(GUEST, GUEST);
            x.lie(0, lie);
            x.tells(0, 2, 0);
            due("how many", x.order(0, 0), 1);
            for (int k = 0; k < 3; k++) {
                due("lie " + lie + ", the " + k + "-th", x.order(0, 1 + k), rows[lie][k]);
            }
        }
        // None is ever taken in, or all always are: all six are alike.
        for (int lie = 0; lie < 2; lie++) {
            TwoTrue x = with(GUEST, GUEST, GUEST);
            likely(x, 0, 40, 50, 50);
            x.lie(0, lie);
            x.tells(0, 2, 1);
            due("how many", x.order(0, 0), 2 * lie);
            for (int k = 0; k < 3; k++) {
                due("all alike, the " + k + "-th", x.order(0, 1 + k), k);
            }
        }
        // The last row alone: 79, 89, 49; by any other the lie (thing 0) is guessed.
        TwoTrue x = with(GUEST, GUEST);
        likely(x, 0, 0, 10, 20);
        read(x, "sure 50 p=2&l=0;sure 60 p=1&l=2;sure 99 p=0&l=1");
        int[] last = {2, 1, 0};
        due("how many", x.order(0, 0), 1);
        for (int k = 0; k < 3; k++) {
            due("the last row, the " + k + "-th", x.order(0, 1 + k), last[k]);
        }
        // Each row alone: the lie is told third, and yet odd by 20 only, if its first thing is told first (25).
        int[][] six = {{0, 1, 2}, {0, 2, 1}, {1, 0, 2}, {1, 2, 0}, {2, 0, 1}, {2, 1, 0}};
        for (int[] row : six) {
            x = with(GUEST, GUEST);
            likely(x, 0, 99, 99, 99);
            lengths(x, 0, 0, 1, 2);
            x.lie(0, row[2]);
            read(x, "odd 50 n=" + row[2] + ";sure 30 n=" + row[2] + "&p=2;odd 25 n=" + row[0] + "&p=0");
            due("how many", x.order(0, 0), 1);
            for (int k = 0; k < 3; k++) {
                due("that row alone, the " + k + "-th", x.order(0, 1 + k), row[k]);
            }
        }
        due("alone: how many", with(GUEST).order(0, 0), 0);
        due("alone: the first row", with(GUEST).order(0, 1), 0);
    }

    private static void likelyTheLeast() {
        says("Terms 2, promise 16", "BEST LIKELY of one: of 0, 9, 18 .. 99 that by which, were LIKELY of its LIE that, "
                + "most are TAKEN IN (of several the least)");
        // The LIE is told first: it is not guessed, if it is LIKELY above m, the other two being so by m.
        for (int m = 0; m < 99; m++) {
            TwoTrue x = with(GUEST, GUEST);
            likely(x, 0, 50, m, m);
            due("above " + m, x.likely(0, 0), (m / 9 + 1) * 9);
            due("how many", x.likely(0, 1), 1);
        }
        TwoTrue x = with(GUEST, GUEST);
        likely(x, 0, 50, 99, 99);
        due("none takes any in: the least", x.likely(0, 0), 0);
        due("none", x.likely(0, 1), 0);
        // Told last, it need only be as likely.
        for (int m = 0; m < 100; m++) {
            x = with(GUEST, GUEST);
            x.tells(0, 1, 2);
            likely(x, 0, 99, m, 99);
            due("as likely as " + m, x.likely(0, 0), (m + 8) / 9 * 9);
        }
        // Most: one more is taken in by 63 than by 54; by 72 no more.
        x = with(GUEST, GUEST, READER);
        lengths(x, 0, 8, 5, 5);
        due("the most", x.likely(0, 1), 2);
        due("the least of them", x.likely(0, 0), 63);
    }

    private static void bestTheFirst() {
        says("Terms 2, promise 17", "BEST LIE of one: by which of its THINGS, were that the LIE, most are TAKEN IN "
                + "(of several the first)");
        int[][] rows = {{50, 50, 50, 1}, {50, 50, 40, 0}, {50, 40, 50, 0}, {40, 50, 50, 1}};
        for (int[] row : rows) {
            for (int lie = 0; lie < 3; lie++) {
                TwoTrue x = with(GUEST, GUEST);
                likely(x, 0, row[0], row[1], row[2]);
                x.lie(0, lie);
                due("the first", x.best(0, 0), row[3]);
                due("how many", x.best(0, 1), 1);
            }
        }
        // 1 guesses 0, 2 (SHARP) guesses 2: the second takes both in; told otherwise, the first or the last.
        TwoTrue x = with(GUEST, GUEST, SHARP);
        x.tells(0, 0, 1);
        due("both by thing 1", x.best(0, 0), 1);
        due("both", x.best(0, 1), 2);
        x.tells(0, 1, 0);
        due("both by thing 0", x.best(0, 0), 0);
        x.tells(0, 0, 2);
        due("both by thing 2", x.best(0, 0), 2);
        due("alone: the first", with(GUEST).best(0, 0), 0);
        due("alone: none", with(GUEST).best(0, 1), 0);
    }

    private static void firstAndNotAgain() {
        says("Terms 2, promise 18",
                "if it guessed that PLACE ahead of all, and did not guess again: how many of all others "
                + "would guess otherwise than in a ROUND as ever.");
        // As ever all guess 0.
        TwoTrue x = with(SHEEP, SHEEP, SHEEP, GUEST, GUEST);
        due("as ever", x.first(3, 4, 0), 0);
        due("all three sheep", x.first(3, 4, 2), 3);
        due("a sheep first: the two others", x.first(0, 4, 1), 2);
        due("itself is not counted", x.first(1, 4, 0), 0);
        x = with(GUEST, SHEEP, SHEEP, GUEST, GUEST);
        due("a guest goes on as ever, the sheep see one hand at 0, one at 2", x.first(3, 4, 2), 0);
        // As ever all guess 2.
        x = with(SHEEP, SHEEP, GUEST, SHEEP, GUEST);
        likely(x, 2, 50, 50, 40);
        due("as ever", x.first(4, 2, 2), 0);
        due("all three sheep, to the place ahead", x.first(4, 2, 1), 3);
        due("all three sheep, to the first place", x.first(4, 2, 0), 3);
        due("the two other sheep", x.first(3, 2, 0), 2);
        x = with(GUEST, GUEST);
        due("no others", x.first(0, 1, 2), 0);
        // Were 1 to guess again, there would be two hands at 0 for 2, and one at 1 only.
        x = with(GUEST, GUEST, SHEEP);
        x.tells(0, 0, 1);
        due("one hand at 1 only", x.first(1, 0, 1), 1);
        // 2 is last, but were it first: 1 follows it; 3 sees 2 hands.
        x = with(GUEST, FOLLOWER, SHARP, FOLLOWER);
        likely(x, 0, 50, 50, 65);
        // As ever: 1: 49 to 34: 0; 2: 34 + 30 to 49: 2; 3: 49 + 10 to 34 + 10: 0.
        due("as ever", x.guess(3, 0), 0);
        due("1: 49 to 44, stays; 3: 59 to 44", x.first(2, 0, 2), 0);
        x.thing(0, 2, 0, 59);
        due("1: 49 to 50, goes; 3: 49 to 60, goes", x.first(2, 0, 2), 2);
    }

    private static void lineOfFive() {
        says("Terms 2, promise 19", "LINE of one who tells (5 PEOPLE at most, else -9)");
        for (int many = 1; many <= 6; many++) {
            TwoTrue x = new TwoTrue();
            for (int p = 0; p < many; p++) {
                x.person(GUEST, 0);
            }
            for (int t = 0; t < many; t++) {
                due(many + ", " + t + " tells: fewest", x.line(t, -1), many > 5 ? -9 : 0);
                for (int k = 0; k < 4; k++) {
                    int want = many > 5 ? -9 : k >= many - 1 ? -5 : k < t ? k : k + 1;
                    due(many + ", " + t + " tells: the " + k + "-th", x.line(t, k), want);
                }
            }
        }
    }

    private static void lineTheFirst() {
        says("Terms 2, promise 19", "that by which the fewest are TAKEN IN (of several the first as a row)");
        // All are taken in, whatever the row is.
        TwoTrue x = with(GUEST, GUEST, GUEST, GUEST, GUEST);
        x.lie(2, 2);
        int[] numbers = {0, 1, 3, 4};
        due("all", x.line(2, -1), 4);
        for (int k = 0; k < 4; k++) {
            due("all rows alike, the " + k + "-th", x.line(2, k), numbers[k]);
        }
        // One (SHARP) guesses the LIE at place 2 by itself, the SHEEP behind it do.
        for (int leader = 1; leader < 5; leader++) {
            x = new TwoTrue();
            for (int p = 0; p < 5; p++) {
                x.person(p == 0 ? GUEST : p == leader ? SHARP : SHEEP, 0);
            }
            x.lie(0, 2);
            due("none", x.line(0, -1), 0);
            due("who leads", x.line(0, 0), leader);
            for (int k = 1; k < 4; k++) {
                due("led by " + leader + ", the " + k + "-th", x.line(0, k), k < leader ? k : k + 1);
            }
        }
        for (int many = 3; many <= 5; many++) {
            for (int t = 0; t < many; t++) {
                lastLine(many, t);
            }
        }
    }

    /** The last row alone: its first guesses place 1 by itself, each other one by as many hands as are ahead. */
    private static void lastLine(int many, int t) {
        TwoTrue x = new TwoTrue();
        int[] row = new int[many - 1];
        int n = 0;
        for (int p = many - 1; p >= 0; p--) {
            x.person(FOLLOWER, 0);
            if (p != t) {
                row[n] = p;
                n++;
            }
        }
        x.lie(t, 1);
        String text = "odd 5 p=1&g=" + row[0];
        for (int k = 1; k < n; k++) {
            text += ";odd " + (10 * k - 5) + " p=0&g=" + row[k];
        }
        read(x, text);
        due(many + ", " + t + " tells: none", x.line(t, -1), 0);
        for (int k = 0; k < n; k++) {
            due(many + ", " + t + " tells: the last row, the " + k + "-th", x.line(t, k), row[k]);
        }
    }

    private static void worthBelowNull() {
        says("Terms 2, promise 20",
                "in how many more ROUNDS (each other one telling one, ROUND being as it is) it guesses "
                + "the PLACE of the LIE than it would, were its WEIGHTS those of a GUEST "
                + "(of E, KIND as it is; may be below 0)");
        TwoTrue x = with(GUEST, GUEST, TOLD, GUEST, GUEST, GUEST);
        x.row(2, 0, 1);
        x.row(2, 1, 2);
        due("led astray by all five", x.worth(2), -5);
        for (int p = 0; p < 6; p++) {
            x.lie(p, 1);
        }
        due("right five times more", x.worth(2), 5);
        x.round(0);
        due("wrong in the next round, as a guest is", x.worth(2), 0);
        // Of itself it guesses nothing.
        x = with(TOLD, GUEST);
        x.row(0, 0, 1);
        x.lie(0, 1);
        due("of 1 alone", x.worth(0), -1);
        // No FRIEND of who tells: it guesses as a GUEST would, whatever that is.
        for (int n = 0; n < 81; n++) {
            x = new TwoTrue();
            x.person(GUEST, 0);
            x.person(FRIEND, 9);
            likely(x, 0, 40 + n / 27 * 10, 40 + n / 9 % 3 * 10, 40 + n / 3 % 3 * 10);
            x.lie(0, n % 3);
            due("no more, no less, " + n, x.worth(1), 0);
        }
        // odd for KIND 3 stays, were it to weigh as a GUEST: 49 + 9 to 49.
        x = new TwoTrue();
        x.person(FRIEND, 1);
        x.person(GUEST, 0);
        x.lie(1, 2);
        read(x, "odd 9 k=3&p=2");
        due("right as a guest by its kind", x.worth(0), 0);
        read(x, "odd 4 k=3&p=1;odd 3 k=0&p=2");
        due("right as a friend alone: 54 to 53", x.worth(0), 1);
        read(x, "odd 5 k=3&p=1");
        due("not even so: 54 to 54", x.worth(0), 0);
    }

    private static void liesAsBits() {
        says("Terms 2, promise 22",
                "LIES of one who told then: those of its THINGS, as bits, by which, were that the LIE, "
                + "HANDS would be just so.");
        // The FRIEND (15 more): by things 0 and 2 it guesses place 0, by thing 1 place 1.
        for (int lie = 0; lie < 3; lie++) {
            TwoTrue x = new TwoTrue();
            x.person(GUEST, 0);
            x.person(FRIEND, 4);
            likely(x, 0, 40, 50, 65);
            x.lie(0, lie);
            due("none is seen", x.lies(0), 0);
            x.see(0, 1);
            due("one at 0", x.lies(0), 5);
            x.see(0, 2);
            due("one hand too many", x.lies(0), 0);
            x.see(0, 0);
            x.see(1, 1);
            due("one at 1", x.lies(0), 2);
            x.see(2, 1);
            due("one too many at 2", x.lies(0), 0);
            x.see(1, 0);
            due("one at 2", x.lies(0), 0);
        }
        // Bits are of THINGS, not of PLACES.
        TwoTrue x = new TwoTrue();
        x.person(GUEST, 0);
        x.person(FRIEND, 8);
        x.tells(0, 2, 0);
        int[] bits = {4, 1, 2};
        for (int place = 0; place < 3; place++) {
            for (int p = 0; p < 3; p++) {
                x.see(p, p == place ? 1 : 0);
            }
            due("one at " + place, x.lies(0), bits[place]);
        }
        // HANDS are 2, 2, 1, whatever the lie is.
        for (int n = 0; n < 216; n++) {
            int[] seen = {n / 36, n / 6 % 6, n % 6};
            x = with(GUEST, GUEST, GUEST, GUEST, GUEST, GUEST);
            read(x, "odd 9 p=1&g>2;odd 18 p=2&g=5");
            for (int place = 0; place < 3; place++) {
                x.see(place, seen[place]);
            }
            boolean isSo = seen[0] == 2 && seen[1] == 2 && seen[2] == 1;
            due("seen " + seen[0] + seen[1] + seen[2], x.lies(0), isSo ? 7 : 0);
        }
        x = with(GUEST, GUEST, GUEST, GUEST, GUEST, GUEST);
        due("none is seen", x.lies(5), 0);
        x.see(0, 5);
        due("all five at 0", x.lies(5), 7);
        due("alone, none seen", with(GUEST).lies(0), 7);
    }

    private static void endsBeyond() {
        says("Terms 2, promise 23",
                "END of n ROUNDS (0 .. 30; beyond ROUND 999, too), each being told by the one whose number is "
                + "ROUND modulo how many PEOPLE there are: POINTS of one then; who has most (of several the first).");
        // All guess place 0: of 0 and 1 that is the lie (2 points for the others), of 2 it is not (2 for it).
        TwoTrue x = with(GUEST, GUEST, GUEST);
        x.lie(2, 1);
        int[][] dues = {{0, 0, 0, 0}, {0, 1, 1, 1}, {1, 1, 2, 2}, {1, 1, 4, 2}, {1, 2, 5, 2}, {2, 2, 6, 2}};
        for (int n = 0; n < dues.length; n++) {
            for (int p = 0; p < 3; p++) {
                due("points of " + p + " behind " + n, x.ends(p, n, 0), dues[n][p]);
                due("who has most behind " + n, x.ends(p, n, 1), dues[n][3]);
            }
        }
        due("30 rounds", x.ends(2, 30, 0), 40);
        due("30 rounds", x.ends(0, 30, 0), 10);
        due("30 rounds", x.ends(1, 30, 0), 10);
        due("29 rounds", x.ends(2, 29, 0), 38);
        // From ROUND 2 on.
        x.round(2);
        x.round(2);
        due("points now", x.ends(2, 0, 0), 4);
        due("2 tells first", x.ends(2, 1, 0), 6);
        due("then 0", x.ends(1, 2, 0), 1);
        // Alone.
        x = with(GUEST);
        due("alone", x.ends(0, 30, 0), 0);
        due("alone", x.ends(0, 30, 1), 0);
        // Of several the first: 1 and 2 have most.
        x = with(GUEST, GUEST, GUEST);
        due("1 and 2 have most", x.ends(0, 1, 1), 1);
        due("all three have as many", x.ends(2, 3, 1), 0);
        // More calls than are promised, for there is no other way to ROUND 999.
        x = with(GUEST, TOLD);
        x.row(1, 3, 1);
        for (int r = 0; r < 999; r++) {
            x.round(1);
        }
        due("points of 0", x.of(0, 2), 999);
        due("round 999: 1 tells", x.ends(0, 1, 0), 1000);
        due("round 1000: 0 tells", x.ends(1, 2, 0), 1);
        // 0 tells at 1000, 1002 .. 1028 (15 times), each modulo 4 being 0 or 2: row 0, where the lie is.
        due("30 rounds beyond", x.ends(1, 30, 0), 15);
        due("30 rounds beyond", x.ends(0, 30, 0), 999 + 15);
    }

    private static void oddsLowest() {
        says("Terms 2, promise 24",
                "if LIKELY of some THING of it, each alike likely, were 50: how likely more are TAKEN IN "
                + "than are not: a fraction in lowest terms");
        // likely of things 0, 1, 2, the lie; in how many of 3.
        int[][] rows = {{40, 50, 50, 0, 0}, {40, 50, 50, 1, 3}, {40, 50, 50, 2, 3}, {60, 50, 50, 0, 2},
            {60, 50, 50, 1, 1}, {60, 60, 50, 2, 2}, {60, 60, 49, 2, 0}, {40, 40, 60, 1, 2}, {40, 40, 60, 0, 1}};
        for (int[] row : rows) {
            TwoTrue x = with(GUEST, GUEST);
            likely(x, 0, row[0], row[1], row[2]);
            x.lie(0, row[3]);
            String call = row[0] + ", " + row[1] + ", " + row[2] + ", lie " + row[3];
            due(call + ", above", x.odds(0, 0), row[4] == 3 ? 1 : row[4]);
            due(call + ", below", x.odds(0, 1), row[4] % 3 == 0 ? 1 : 3);
        }
        // 1 .. 4 others, as many of them SHARP as told: taken in by the LIE at 0.
        int[][] halves = {{1, 0, 0}, {1, 1, 1}, {2, 0, 0}, {2, 1, 0}, {2, 2, 1}, {3, 1, 0}, {3, 2, 1}, {4, 2, 0},
            {4, 3, 1}, {5, 2, 0}, {5, 3, 1}};
        for (int[] half : halves) {
            TwoTrue x = with(GUEST);
            for (int p = 0; p < half[0]; p++) {
                x.person(p < half[1] ? SHARP : GUEST, 0);
            }
            due(half[1] + " of " + half[0], x.odds(0, 0), half[2]);
            due(half[1] + " of " + half[0], x.odds(0, 1), 1);
        }
        due("alone: none is not more than none", with(GUEST).odds(0, 0), 0);
        due("alone", with(GUEST).odds(0, 1), 1);
    }

    private static void meanLowest() {
        says("Terms 2, promise 25",
                "MEAN: how many are TAKEN IN by each one that tells, together, by how many PEOPLE there are: "
                + "a fraction in lowest terms (NO: nobody).");
        due("nobody", new TwoTrue().mean(0), TwoTrue.NO);
        due("nobody", new TwoTrue().mean(1), TwoTrue.NO);
        for (int many = 1; many <= 6; many++) {
            for (int liars = 0; liars <= many; liars++) {
                TwoTrue x = new TwoTrue();
                for (int p = 0; p < many; p++) {
                    x.person(GUEST, 0);
                    x.lie(p, p < liars ? 1 : 0);
                }
                // Each of the liars takes all others in.
                int above = liars * (many - 1);
                int below = many;
                for (int d = 6; d > 1; d--) {
                    if (above % d == 0 && below % d == 0) {
                        above /= d;
                        below /= d;
                    }
                }
                due(liars + " of " + many + ", above", x.mean(0), above);
                due(liars + " of " + many + ", below", x.mean(1), below);
            }
        }
    }

    private static void lookedFirst() {
        says("Terms 2, promises 26, 27",
                "A BOOK told by hand: who told, who guessed, which PLACE (12 at most): LOOKED at: "
                + "the first that is otherwise, as all is now (-5: none).");
        TwoTrue x = with(GUEST, GUEST);
        due("empty", x.looked(), -5);
        for (int row = 1; row <= 12; row++) {
            due("row", x.book(row % 2, 1 - row % 2, 0), row);
            due("none is otherwise", x.looked(), -5);
        }
        due("a thirteenth", x.book(0, 1, 1), -4);
        due("none is otherwise", x.looked(), -5);
        x.thing(0, 1, 0, 0);
        due("as all is now: row 1, which 0 told", x.looked(), 1);
        x.thing(1, 2, 0, 0);
        due("as all is now: row 0, too", x.looked(), 0);
        x.thing(1, 2, 0, 50);
        x.thing(0, 1, 0, 50);
        due("as it was", x.looked(), -5);
        for (int wrong = 0; wrong < 12; wrong++) {
            x = with(GUEST, GUEST);
            for (int row = 0; row < 12; row++) {
                x.book(row % 2, 1 - row % 2, row < wrong ? 0 : 1 + row % 2);
            }
            due("the first that is otherwise", x.looked(), wrong);
        }
    }

    // ---- 2: acts, the trace, the image

    private static void acts() {
        wrapping();
        bodies();
        trace();
        image();
    }

    /** One of a kind with v and the number i, asked for an act. */
    private static int act(int kind, int v, int i, int act, int x) {
        TwoTrue all = new TwoTrue();
        for (int p = 0; p < i; p++) {
            all.person(GUEST, 0);
        }
        all.person(kind, v);
        return all.act(i, act, x);
    }

    private static void wrapping() {
        says("Terms 2, promise 31", "ACTS of one with x (wrapping): 0 doubts, 1 guesses, 2 tells; i the number.");
        due("10: MAX + 1", act(GUEST, 0, 1, DOUBTS, MAX), MIN);
        due("10: MAX + 0", act(GUEST, 0, 0, DOUBTS, MAX), MAX);
        due("10: MIN + 5", act(GUEST, 9, 5, DOUBTS, MIN), MIN + 5);
        due("11: MIN - 9", act(GUEST, 9, 0, GUESSES, MIN), MAX - 8);
        due("11: MAX + 5 - 4", act(GUEST, 4, 5, GUESSES, MAX), MIN);
        due("12: MAX * 2", act(GUEST, 0, 0, TELLS, MAX), -2);
        due("12: MIN * 2", act(GUEST, 0, 0, TELLS, MIN), 0);
        due("12: 2 to the 30th, twice", act(GUEST, 0, 0, TELLS, 1 << 30), MIN);
        due("20: MAX ^ 6", act(READER, 0, 0, GUESSES, MAX), MAX - 6);
        due("20: MIN ^ 6", act(READER, 0, 0, GUESSES, MIN), MIN + 6);
        due("20: (MIN - 1) ^ 6", act(READER, 1, 0, GUESSES, MIN), MAX - 6);
        due("30: MAX * 3", act(FOLLOWER, 0, 0, DOUBTS, MAX), MAX - 2);
        due("30: MIN * 3", act(FOLLOWER, 0, 0, DOUBTS, MIN), MIN);
        due("30: 715827883 * 3", act(FOLLOWER, 0, 0, DOUBTS, 715827883), MIN + 1);
        due("30: 715827882 * 3 + 2", act(FOLLOWER, 0, 2, DOUBTS, 715827882), MIN);
        due("40: (MAX - 1) + 1", act(FRIEND, 0, 0, TELLS, (1 << 30) - 1), MAX);
        due("40: (MAX - 1) + 2", act(FRIEND, 0, 1, TELLS, (1 << 30) - 2), MIN);
        due("50: -MIN", act(SHARP, 0, 0, DOUBTS, MIN), MIN);
        due("50: -MAX", act(SHARP, 0, 0, DOUBTS, MAX), MIN + 1);
        due("51: MAX + 1, and -MIN, and ^ 6", act(SHARP, 0, 0, GUESSES, MAX), MIN + 6);
        due("60: MIN - 1, times 3 and 1, twice", act(SHEEP, 0, 1, TELLS, MIN), -4);
        due("70: MAX + 2", act(TOLD, 0, 0, GUESSES, MAX), MIN + 1);
        due("70: (MAX ^ 9) - 9 + 2", act(TOLD, 9, 0, GUESSES, MAX), MAX - 16);
        due("71: (MAX + 1) ^ 9", act(TOLD, 9, 1, DOUBTS, MAX), MIN + 9);
        due("40, 70: (MAX + 2) * 2 + 3", act(TOLD, 0, 0, TELLS, MAX), 5);
    }

    private static void bodies() {
        says("Terms 2, promise 31", "the body of the KIND, or, if that has none, of the next KIND above that has one");
        // v 5, i 1, x 7: doubts, guesses, tells.
        int[][] dues = {
            {8, 3, 6},
            {8, 3 ^ 6, (3 ^ 6) * 2},
            {22, 17, 34},
            {8, 3, 6 - 3},
            {-8, (-9 - 5) ^ 6, ((-9 - 5) ^ 6) * 2},
            {22, 17, (18 + 1 - 5) * 2},
            {8 ^ 5, (8 ^ 5) - 5 + 3, ((8 ^ 5) - 5 + 3) * 2 + (2 ^ 5) - 5 + 3}};
        for (int kind = 0; kind < 7; kind++) {
            for (int act = 0; act < 3; act++) {
                due("kind " + kind + ", act " + act, act(kind, 5, 1, act, 7), dues[kind][act]);
            }
        }
    }

    private static void trace() {
        says("Terms 2, promises 32, 34",
                "THE TRACE: the numbers of the bodies that ran in the latest act(), as they began; "
                + "the first 20 are kept.");
        int[][] dues = {
            {10}, {11, 10}, {12, 11, 10},
            {10}, {20, 11, 10}, {12, 20, 11, 10},
            {30, 10}, {11, 30, 10}, {12, 11, 30, 10},
            {10}, {11, 10}, {40, 12, 11, 10, 11, 10},
            {50, 10}, {51, 20, 11, 50, 10}, {12, 51, 20, 11, 50, 10},
            {30, 10}, {11, 30, 10}, {60, 12, 11, 30, 10},
            // The longest: there is none of more than 12, so all that run are kept.
            {71, 10}, {70, 11, 71, 10, 10}, {40, 12, 70, 11, 71, 10, 10, 70, 11, 71, 10, 10}};
        TwoTrue x = new TwoTrue();
        for (int i = 0; i < dues.length; i++) {
            if (i == 18) {
                x = new TwoTrue();
            }
            if (i % 3 == 0) {
                x.person(i / 3, 2);
            }
            int one = i < 18 ? i / 3 : 0;
            x.act(one, i % 3, 4);
            due("how many of " + i, x.count(4), dues[i].length);
            for (int k = 0; k < 21; k++) {
                due("body " + k + " of " + i, x.trace(k), k < dues[i].length ? dues[i][k] : -1);
            }
        }
    }

    /** What is done between an image and its undo. */
    private interface Deed {
        void to(TwoTrue x);
    }

    private static void image() {
        says("Terms 2, promises 29, 30",
                "THE IMAGE: PEOPLE with all that is theirs, ROUND, SEEN, the BOOK, which EVENING holds.");
        Deed[] deeds = {
            x -> x.thing(0, 2, 0, 77), x -> x.thing(1, 0, 1, 2), x -> x.lie(0, 1), x -> x.tells(1, 2, 1),
            x -> x.row(0, 3, 1), x -> x.round(0), x -> x.see(0, 4), x -> x.see(2, 4), x -> x.book(-1, 0, 0),
            x -> x.book(1, 0, 2), x -> x.person(SHEEP, 1), x -> x.round(1)};
        for (int d = 0; d < deeds.length; d++) {
            int first = d;
            Twins.alike("deed " + d + " is undone", () -> {
                TwoTrue x = Twins.few();
                x.image();
                x.undo();
                return x;
            }, () -> {
                TwoTrue x = Twins.few();
                x.image();
                for (int i = 0; i < deeds.length; i++) {
                    deeds[(first + i) % deeds.length].to(x);
                }
                x.undo();
                return x;
            });
        }
        Twins.alike("all twelve rows of the BOOK, all six PEOPLE", () -> {
            TwoTrue x = Twins.full();
            x.image();
            x.undo();
            return x;
        }, () -> {
            TwoTrue x = Twins.full();
            x.image();
            x.book(-1, 0, 0);
            for (int row = 0; row < 12; row++) {
                x.book(0, 1, row % 3);
            }
            for (int p = 0; p < 6; p++) {
                likely(x, p, 1, 2, 3);
                lengths(x, p, 1, 2, 3);
                x.lie(p, (p + 1) % 3);
                x.tells(p, 2, 1);
                x.see(p % 3, 0);
            }
            x.undo();
            return x;
        });
        TwoTrue x = with(GUEST, GUEST);
        x.image();
        read(x, "hands 3;odd 9 p=1");
        due("another evening holds", x.doubt(0, 1, 1), 58);
        x.undo();
        due("none holds", x.doubt(0, 1, 1), 49);
        due("none holds", x.told(1), 10);
        read(x, "hands 4");
        x.image();
        read(x, "hands 5");
        x.undo();
        due("the one in between holds", x.told(1), 4);
        due("that there are three is no part of it", x.count(1), 3);
        due("the fourth", read(x, "hands 6"), 3);
    }

    // ---- 3: tapes, judging, answers

    private static void judging() {
        tapesHoldNothing();
        booleans();
        judged();
        refusals();
        answers();
        firstThatIsNamed();
        changesNothingEither();
        no();
    }

    private static void tapesHoldNothing() {
        says("Terms 3, promise 35", "TAPES 0 .. 5 hold nothing (at first)");
        TwoTrue x = new TwoTrue();
        for (int tape = 0; tape < 6; tape++) {
            due("tape " + tape, x.read(tape, 0), TwoTrue.NO);
            due("tape " + tape, x.item(tape, 0, 1), -11);
            due("tape " + tape, x.shift(tape, 0, tape, 0, 0), -11);
            due("tape " + tape, x.tape(tape, 0, 1), 1);
        }
        due("tape 6", x.item(6, 0, 1), -1);
        due("tape -1", x.item(-1, 0, 1), -1);
    }

    private static void booleans() {
        says("Terms 3, promises 35, 36", "a row of 0 bytes, 1 shorts, 2 ints, 3 longs, 4 booleans (items 0, 1)");
        long[][] ends = {{-128, 127}, {-32768, 32767}, {MIN, MAX}, {Long.MIN_VALUE, Long.MAX_VALUE}};
        TwoTrue x = new TwoTrue();
        for (int sort = 0; sort < 4; sort++) {
            due("row", x.tape(sort, sort, 2), 1);
            x.item(sort, 0, ends[sort][0]);
            x.item(sort, 1, ends[sort][1]);
            due("the least of sort " + sort, x.read(sort, 0), ends[sort][0]);
            due("the greatest of sort " + sort, x.read(sort, 1), ends[sort][1]);
            x.item(sort, 0, ends[sort][0] - 1);
            x.item(sort, 1, ends[sort][1] + 1);
            due("below the least of sort " + sort, x.read(sort, 0), ends[sort][1]);
            due("above the greatest of sort " + sort, x.read(sort, 1), ends[sort][0]);
        }
        due("booleans", x.tape(4, 4, 1), 1);
        for (long v : new long[] {0, 1, 2, -1, 256, 65536, 1L << 32, Long.MIN_VALUE, Long.MAX_VALUE}) {
            x.item(4, 0, v);
            due("whether " + v + " is not 0", x.read(4, 0), v == 0 ? 0 : 1);
        }
        due("sort -2", x.tape(4, -2, 1), -2);
        due("sort 5", x.tape(4, 5, 1), -2);
    }

    private static void judged() {
        says("Terms 3, promise 28",
                "the first that is otherwise; -5: none, or there is none to look at; 100 and how many were "
                + "looked at, if the row ends ahead of that (or the place is below 0, or the TAPE holds nothing).");
        TwoTrue x = with(GUEST, GUEST, GUEST, GUEST, GUEST, GUEST);
        // All five others are taken in, by 0 once, by 4 twice.
        int[] points = {5, 0, 0, 0, 10, 0};
        x.lie(0, 1);
        x.lie(4, 2);
        x.round(0);
        x.round(4);
        x.round(4);
        x.tape(0, 1, 60);
        for (int from = 0; from <= 54; from += 27) {
            for (int p = 0; p < 6; p++) {
                due("otherwise at " + p, x.judge(0, from), p == 0 ? 0 : p > 4 ? -5 : 4);
                x.item(0, from + p, points[p]);
            }
            due("none is otherwise, from " + from, x.judge(0, from), -5);
        }
        for (int many = 0; many <= 6; many++) {
            x.tape(1, 1, many);
            x.item(1, 0, 5);
            x.item(1, 4, 10);
            due("a row of " + many, x.judge(1, 0), many < 6 ? 100 + many : -5);
            due("from its end on", x.judge(1, many), 100);
            due("from beyond its end on", x.judge(1, many + 1), 100);
            due("from far beyond its end on", x.judge(1, MAX), 100);
            due("from -1 on", x.judge(1, -1), 100);
            due("from far below 0 on", x.judge(1, MIN), 100);
        }
        x.tape(1, 1, 5);
        x.item(1, 0, 5);
        due("otherwise ahead of its end", x.judge(1, 0), 4);
        x.item(1, 0, 0);
        x.item(1, 4, 5);
        due("its last is so, then it ends", x.judge(1, 4), 101);
        due("its last is not", x.judge(1, 3), 0);
        for (int p = 0; p < 6; p++) {
            for (int more = -1; more <= 1; more += 2) {
                x.item(0, 54 + p, points[p] + more);
                due("by " + more + " otherwise at " + p, x.judge(0, 54), p);
                x.item(0, 54 + p, points[p]);
            }
        }
        due("the tape holds nothing", x.judge(2, 0), 100);
        due("the tape holds nothing", x.judge(2, -1), 100);
        x = new TwoTrue();
        x.tape(1, 1, 3);
        x.tape(2, 1, 0);
        due("none to look at", x.judge(1, 0), -5);
        due("none to look at, at its end", x.judge(1, 3), -5);
        due("none to look at, no items", x.judge(2, 0), -5);
        // Both might be due: -5 is named ahead of 100.
        for (int i : new int[] {-1, 0, 3, 4, 60, MIN, MAX}) {
            due("none to look at, from " + i + " on", x.judge(1, i), -5);
            due("none to look at, of nothing, from " + i + " on", x.judge(3, i), -5);
        }
    }

    private static void refusals() {
        says("Terms 3, promises 28, 33 to 38",
                "The host's refusals: NOTHING (-11): nothing is there; CAST (-12): another sort or KIND; "
                + "PLACE (-13): no such place; SIZE (-14): a size below 0.");
        TwoTrue x = with(GUEST);
        x.tape(0, 0, 1);
        x.tape(1, 1, 1);
        due("NOTHING", x.item(2, 0, 0), -11);
        due("CAST", x.shift(0, 0, 1, 0, 1), -12);
        due("CAST", x.taken(0, READER), -12);
        due("PLACE", x.item(0, 1, 0), -13);
        due("SIZE", x.tape(0, 0, -1), -14);
    }

    private static void answers() {
        says("Terms 3, promises 2 to 38",
                "Answers: NONE (-1) no such number; BAD (-2) a number is not as told; STATE (-3) as told; "
                + "FULL (-4)");
        due("NONE", TwoTrue.NONE, -1);
        due("BAD", TwoTrue.BAD, -2);
        due("STATE", TwoTrue.STATE, -3);
        due("FULL", TwoTrue.FULL, -4);
        due("no such number", new TwoTrue().person(7, 0), TwoTrue.NONE);
        due("not as told", new TwoTrue().person(0, 10), TwoTrue.BAD);
        due("as told", new TwoTrue().undo(), TwoTrue.STATE);
        due("full", with(0, 0, 0, 0, 0, 0).person(0, 0), TwoTrue.FULL);
    }

    private static void firstThatIsNamed() {
        says("Terms 3, promises 2 to 38", "the first that a call's words name.");
        TwoTrue x = with(GUEST, GUEST, GUEST, GUEST, GUEST, GUEST);
        due("kind, v, six", x.person(7, 10), -1);
        due("v, six", x.person(6, 10), -2);
        due("six", x.person(6, 9), -4);
        due("part, n, another KIND", x.row(0, 4, 3), -1);
        due("n, another KIND", x.row(0, 3, 3), -2);
        due("another KIND", x.row(0, 3, 2), -3);
        due("k, six", x.line(0, 4), -1);
        due("six", x.line(0, 3), -9);
        for (int row = 0; row < 12; row++) {
            x.book(0, 1, 0);
        }
        due("place, one alone, twelve", x.book(1, 1, 3), -1);
        due("one alone, twelve", x.book(1, 1, 2), -2);
        due("twelve", x.book(1, 2, 2), -4);
        due("tape, sort, size", x.tape(6, 5, -1), -1);
        due("sort, size", x.tape(5, 5, -1), -2);
        due("size", x.tape(5, 4, -1), -14);
        x.tape(0, 0, 1);
        x.tape(1, 1, 1);
        due("tapes, nothing, unlike, place", x.shift(2, 0, 6, 0, -1), -1);
        due("nothing, unlike, place", x.shift(2, 0, 1, 0, -1), -11);
        due("unlike, place", x.shift(0, 0, 1, 0, -1), -12);
        due("place", x.shift(0, 0, 0, 0, -1), -13);
        due("k, no such one", x.taken(6, 7), -2);
        due("no such one", x.taken(6, 6), -11);
        due("another KIND", x.taken(5, 6), -12);
    }

    private static void changesNothingEither() {
        says("Terms 3, promises 2 to 38", "What is answered so changes nothing; what is asked changes nothing.");
        for (int n = -1; n <= 7; n++) {
            int one = n;
            for (int m : new int[] {-1, 0, 1, 2, 3, 6, 11, 21, 60}) {
                Twins.unmoved("of", Twins::few, x -> x.of(one, m));
                Twins.unmoved("guess", Twins::few, x -> x.guess(one, m));
                Twins.unmoved("doubt", Twins::few, x -> x.doubt(one, 2, m));
                Twins.unmoved("hands", Twins::few, x -> x.hands(one, m));
                Twins.unmoved("judge", Twins::few, x -> x.judge(one, m));
                Twins.unmoved("taken", Twins::few, x -> x.taken(one, m));
                Twins.unmoved("read", Twins::few, x -> x.read(one, m));
            }
            Twins.unmoved("told", Twins::few, x -> x.told(one));
            Twins.unmoved("trace", Twins::few, x -> x.trace(one));
            Twins.unmoved("count", Twins::few, x -> x.count(one));
            Twins.unmoved("told", Twins::full, x -> x.told(one));
            Twins.unmoved("guess", Twins::full, x -> x.guess(one, 5));
            Twins.unmoved("hands", Twins::full, x -> x.hands(one, 3));
            Twins.unmoved("judge", Twins::full, x -> x.judge(one, 0));
        }
    }

    private static void no() {
        says("Terms 3, promises 24, 25, 37", "The constants: `NO = Long.MIN_VALUE`: There is no such number.");
        due("NO", TwoTrue.NO, Long.MIN_VALUE);
        TwoTrue x = new TwoTrue();
        x.tape(0, 3, 1);
        x.item(0, 0, Long.MIN_VALUE);
        due("an item that is NO", x.read(0, 0), TwoTrue.NO);
        due("no item", x.read(0, 1), TwoTrue.NO);
    }
}
