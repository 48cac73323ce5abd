import java.util.ArrayList;
import java.util.Arrays;
import java.util.List;

/** What the tests say by one word: objects that hold something already, and how they are asked. */
abstract class Given {
    static final int NONE = -6, UNKNOWN = -1, OUTSIDE = -2, STATE = -3, FULL = -4, NO = -5;
    static final int LOW = Integer.MIN_VALUE, HIGH = Integer.MAX_VALUE;

    /** Makes the same object again and again: one that has been asked is used for few calls more. */
    interface Made {
        SaidAlready anew();
    }

    /** A call. */
    interface Ask {
        long of(SaidAlready x);
    }

    /** A call with a number. */
    interface AskWith {
        long of(SaidAlready x, int n);
    }

    static void due(String call, long got, long want) {
        Due.due(call, got, want);
    }

    static void same(String what, String got, String want) {
        Due.holds(what + ": " + got + ", due is " + want, got.equals(want));
    }

    static void say(SaidAlready x, String signs) {
        for (int i = 0; i < signs.length(); i++) {
            x.say(signs.charAt(i));
        }
    }

    static SaidAlready said(String signs) {
        SaidAlready x = new SaidAlready();
        say(x, signs);
        return x;
    }

    static int fault(String signs, int how) {
        return said(signs).fault(how);
    }

    static int keep(SaidAlready x, String pair, int behind) {
        say(x, pair);
        return x.keep(behind);
    }

    static int write(SaidAlready x, String sentence) {
        say(x, sentence);
        return x.write();
    }

    /** An object with these PAIRS, each behind none. */
    static SaidAlready kept(String... pairs) {
        SaidAlready x = new SaidAlready();
        for (String pair : pairs) {
            keep(x, pair, -1);
        }
        return x;
    }

    /** An object with this TEXT. */
    static SaidAlready text(String... sentences) {
        return written(new SaidAlready(), sentences);
    }

    static SaidAlready written(SaidAlready x, String... sentences) {
        for (String sentence : sentences) {
            write(x, sentence);
        }
        return x;
    }

    static SaidAlready rated(SaidAlready x, int... rates) {
        for (int band = 0; band < rates.length; band++) {
            x.rate(band, rates[band]);
        }
        return x;
    }

    /** An object with these LENGTHS. */
    static SaidAlready laid(int[] one, int[] other) {
        SaidAlready x = new SaidAlready();
        for (int v : one) {
            x.length(0, v);
        }
        for (int v : other) {
            x.length(1, v);
        }
        return x;
    }

    static int[] times(int n, int v) {
        int[] row = new int[n];
        Arrays.fill(row, v);
        return row;
    }

    static int far(String one, String other) {
        return text(one, other).far(0, 1);
    }

    static int like(String sentence, String first) {
        return written(kept(first + "=A"), sentence).match(0, 0);
    }

    static String first(SaidAlready x, int pair) {
        StringBuilder signs = new StringBuilder();
        for (int i = 0; i < x.pair(pair, 0); i++) {
            signs.append((char) x.pair(pair, 100 + i));
        }
        return signs.toString();
    }

    static String second(SaidAlready x, int pair) {
        StringBuilder signs = new StringBuilder();
        for (int i = 0; i < x.pair(pair, 1); i++) {
            signs.append((char) x.pair(pair, 200 + i));
        }
        return signs.toString();
    }

    static String filled(SaidAlready x, int sentence) {
        StringBuilder signs = new StringBuilder();
        for (int i = 0; i < x.filled(sentence, -1); i++) {
            signs.append((char) x.filled(sentence, i));
        }
        return signs.toString();
    }

    static String order(SaidAlready x) {
        StringBuilder order = new StringBuilder();
        for (int i = 0; i < 10 && x.order(i) != NONE; i++) {
            order.append(x.order(i));
        }
        return order.toString();
    }

    static String steps(SaidAlready x) {
        StringBuilder steps = new StringBuilder();
        for (int i = 0; i < 24 && x.laid(i) != NONE; i++) {
            steps.append(x.laid(i));
        }
        return steps.toString();
    }

    /**
     * Numbers that are not from least to greatest: all near it, and far ones that come back to it
     * where only the last 5, 8, 16 or 31 bits are looked at.
     */
    static List<Integer> allBut(int least, int greatest) {
        List<Integer> numbers = new ArrayList<>();
        for (int n = -330; n <= 430; n++) {
            addOutside(numbers, n, least, greatest);
        }
        for (int n = least - 3; n <= greatest + 3; n++) {
            for (int bit = 10; bit < 32; bit++) {
                addOutside(numbers, n + (1 << bit), least, greatest);
                addOutside(numbers, n - (1 << bit), least, greatest);
            }
        }
        addOutside(numbers, HIGH, least, greatest);
        addOutside(numbers, LOW, least, greatest);
        return numbers;
    }

    private static void addOutside(List<Integer> numbers, int n, int least, int greatest) {
        if (n < least || n > greatest) {
            numbers.add(n);
        }
    }

    /** Each number is answered so; an object is asked a hundred times, far below its 512 calls. */
    static void eachAnswers(String call, Made made, List<Integer> numbers, AskWith ask, long want) {
        SaidAlready x = null;
        for (int i = 0; i < numbers.size(); i++) {
            x = i % 100 == 0 ? made.anew() : x;
            int n = numbers.get(i);
            due(call + " with " + n, ask.of(x, n), want);
        }
    }

    /** The call is answered so, and all that can be asked behind it is as if it had not been made. */
    static void refused(String call, Made made, Ask ask, long want) {
        due(call, ask.of(made.anew()), want);
        String without = Look.at(made);
        String with = Look.at(() -> {
            SaidAlready x = made.anew();
            ask.of(x);
            return x;
        });
        same(call + " changes nothing", with, without);
    }
}
