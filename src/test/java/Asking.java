/** What the tests reckoned by hand share: people in a row, their things in a row, a text read at once. */
abstract class Asking {
    static final int GUEST = 0, READER = 1, FOLLOWER = 2, FRIEND = 3, SHARP = 4, SHEEP = 5, TOLD = 6;
    static final int MIN = Integer.MIN_VALUE, MAX = Integer.MAX_VALUE;

    static void due(String call, long got, long want) {
        Check.due(call, got, want);
    }

    /** Names the sentence of the document, word for word, that the checks behind it are for. */
    static void says(String where, String sentence) {
        Check.group(where + ", \"" + sentence + "\"");
    }

    /** PEOPLE of these kinds, each with v 0. */
    static TwoTrue with(int... kinds) {
        TwoTrue x = new TwoTrue();
        for (int kind : kinds) {
            x.person(kind, 0);
        }
        return x;
    }

    static void likely(TwoTrue x, int person, int a, int b, int c) {
        x.thing(person, 0, 0, a);
        x.thing(person, 1, 0, b);
        x.thing(person, 2, 0, c);
    }

    static void lengths(TwoTrue x, int person, int a, int b, int c) {
        x.thing(person, 0, 1, a);
        x.thing(person, 1, 1, b);
        x.thing(person, 2, 1, c);
    }

    static void feed(TwoTrue x, String text) {
        for (int i = 0; i < text.length(); i++) {
            x.feed(text.charAt(i));
        }
    }

    static int read(TwoTrue x, String text) {
        feed(x, text);
        return x.evening();
    }
}
