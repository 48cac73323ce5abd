/**
 * All that can be asked of an object, as one text. What one look asks is spread over several objects
 * that were made alike, since an object is used for 512 calls at most.
 */
final class Look {
    private static final int SENTENCES = 10, PAIRS = 12, WORDS = 16;

    private Look() {
    }

    static String at(Given.Made made) {
        return now(made) + "\nsigns " + signs(made.anew())
                + "\nimage 0 " + image(made, 0) + "\nimage 1 " + image(made, 1);
    }

    /** All but what the IMAGES hold, and which signs there are. */
    static String now(Given.Made made) {
        return "settings " + settings(made.anew()) + "\npairs " + pairs(made.anew())
                + "\nlikeness " + likeness(made.anew()) + "\nwords " + words(made.anew())
                + "\nprices " + prices(made.anew());
    }

    static String settings(SaidAlready x) {
        StringBuilder s = new StringBuilder();
        for (int what = 0; what < 36; what++) {
            add(s, x.told(what));
        }
        add(s, x.fault(0));
        add(s, x.fault(1));
        return s.toString();
    }

    /** The first four signs of each: the tests' large memories have short sentences. */
    static String pairs(SaidAlready x) {
        StringBuilder s = new StringBuilder();
        for (int pair = 0; pair < PAIRS; pair++) {
            add(s, x.pair(pair, 0));
            add(s, x.pair(pair, 1));
            add(s, x.pair(pair, 2));
            for (int place = 0; place < 4; place++) {
                add(s, x.pair(pair, 100 + place));
                add(s, x.pair(pair, 200 + place));
            }
        }
        return s.toString();
    }

    private static String likeness(SaidAlready x) {
        StringBuilder s = new StringBuilder();
        for (int sentence = 0; sentence < SENTENCES; sentence++) {
            for (int pair = 0; pair < PAIRS; pair++) {
                add(s, x.match(sentence, pair));
            }
            for (int other = sentence; other < SENTENCES; other++) {
                add(s, x.far(sentence, other));
            }
            for (int i = -1; i < 4; i++) {
                add(s, x.filled(sentence, i));
            }
            add(s, x.found(sentence, 0));
            add(s, x.found(sentence, 1));
        }
        return s.toString();
    }

    private static String words(SaidAlready x) {
        StringBuilder s = new StringBuilder();
        for (int word = 0; word < WORDS; word++) {
            add(s, x.learnt(word));
            for (int with = 0; with < 4; with++) {
                add(s, x.goes(word, with, 0));
                add(s, x.goes(word, with, 1));
            }
        }
        add(s, x.wrongs());
        add(s, x.clash());
        return s.toString();
    }

    private static String prices(SaidAlready x) {
        StringBuilder s = new StringBuilder();
        for (int sentence = -1; sentence < SENTENCES; sentence++) {
            add(s, x.price(sentence));
            add(s, x.order(sentence));
        }
        add(s, x.kept());
        for (int what = -3; what < 24; what++) {
            add(s, x.laid(what));
        }
        return s.toString();
    }

    /** The signs can be read once they have become a PAIR or a SENTENCE, for which room is made. */
    private static String signs(SaidAlready x) {
        StringBuilder s = new StringBuilder();
        add(s, x.restore(0));
        add(s, x.write());
        add(s, x.far(0, 1));
        add(s, x.keep(-1));
        return s + pairs(x);
    }

    private static String image(Given.Made made, int n) {
        SaidAlready x = made.anew();
        int restored = x.restore(n);
        SaidAlready y = made.anew();
        y.restore(n);
        return restored + " " + settings(x) + pairs(x) + prices(y);
    }

    private static void add(StringBuilder s, long answer) {
        s.append(answer).append(' ');
    }
}
