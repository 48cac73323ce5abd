import java.util.Random;

/** Runs of calls by dice (always the same ones) on the program and on the plain model. */
public final class RandomRunsTest {
    private static final int[] ODD = {
        Integer.MIN_VALUE, Integer.MIN_VALUE + 1, -1000000, -7, -6, -5, -4, -3, -2, -1, 0, 1, 2, 3, 4, 5,
        9, 10, 11, 12, 13, 14, 15, 16, 17, 20, 29, 30, 31, 32, 33, 35, 36, 61, 90, 98, 99, 100, 101, 111, 112,
        113, 126, 127, 199, 200, 205, 211, 212, 300, 1 << 16, Integer.MAX_VALUE - 1, Integer.MAX_VALUE};

    private final Random dice;
    private SaidAlready x;
    private PlainModel y;
    private StringBuilder past;
    private int calls;
    // How many words and numbers this run uses: few of them make sentences that are alike.
    private int words;
    private int numbers;
    private int longest;
    private int odd;
    private String lastSaid;

    private RandomRunsTest(long seed) {
        dice = new Random(seed);
    }

    public static void main(String[] args) {
        RandomRunsTest test = new RandomRunsTest(20261118L);
        for (int run = 0; run < 2500 && !Due.anyWrong(); run++) {
            test.oneRun(run);
        }
        Due.end();
    }

    private void oneRun(int run) {
        x = new SaidAlready();
        y = new PlainModel();
        past = new StringBuilder("run " + run + ": ");
        calls = 0;
        words = 1 + dice.nextInt(run % 5 == 0 ? 16 : 4);
        numbers = 1 + dice.nextInt(3);
        longest = 1 + dice.nextInt(12);
        odd = dice.nextInt(3) == 0 ? 10 : 1;
        lastSaid = "a";
        boolean large = run % 10 == 0;
        while (calls < 460 && !Due.anyWrong()) {
            oneDeed(large);
        }
        lookAtAll();
    }

    private void lookAtAll() {
        for (int pair = 0; pair < y.told(1) && calls < 490; pair++) {
            call(5, pair, 2, 0);
            call(7, dice.nextInt(1 + y.told(2)), pair, 0);
        }
        call(12, -1, 0, 0);
        call(22, 1, 0, 0);
        call(13, 0, 0, 0);
        for (int what = 0; what < 36; what += 1 + dice.nextInt(4)) {
            call(25, what, 0, 0);
        }
    }

    private void oneDeed(boolean large) {
        int deed = dice.nextInt(100);
        if (deed < 14) {
            sayAll(sentence('a') + "=" + sentence('A'));
            call(3, dice.nextInt(3) == 0 ? -1 : dice.nextInt(1 + Math.max(0, y.told(1))) - dice.nextInt(2), 0, 0);
        } else if (deed < 24 && (large || y.told(2) < 7 || dice.nextInt(40) == 0)) {
            sayAll(sentence('a'));
            call(4, 0, 0, 0);
        } else if (deed < 30) {
            // One text grows alone now and then, so that they are of unlike size.
            call(20, dice.nextInt(2), 1 + dice.nextInt(dice.nextBoolean() ? 99 : 12), 0);
        } else if (deed < 32 && dice.nextInt(2) == 0) {
            // To and fro between images: the same places hold now the one thing, now the other.
            call(23 + dice.nextInt(2), dice.nextInt(2), 0, 0);
        } else if (deed < 36 && dice.nextInt(odd == 10 ? 1 : 3) == 0) {
            call(1, 0, 0, 0);
            call(0, number(), 0, 0);
            call(2, dice.nextInt(2), 0, 0);
        } else {
            call(dice.nextInt(26), number(), number(), number());
        }
    }

    private int number() {
        return dice.nextInt(100) < odd ? ODD[dice.nextInt(ODD.length)] : dice.nextInt(14) - 1;
    }

    /** Often nearly what was said last, so that all BANDS come up. */
    private String sentence(char tongue) {
        StringBuilder s = new StringBuilder();
        if (tongue == 'a' && dice.nextInt(3) > 0) {
            s.append(lastSaid);
            for (int n = dice.nextInt(3); n > 0; n--) {
                s.setCharAt(dice.nextInt(s.length()), sign(tongue));
            }
        } else {
            for (int n = 1 + dice.nextInt(longest); n > 0; n--) {
                s.append(sign(tongue));
            }
        }
        if (tongue == 'a' && dice.nextInt(2) == 0) {
            lastSaid = s.toString();
        }
        return s.toString();
    }

    private char sign(char tongue) {
        return dice.nextInt(3) == 0
                ? (char) ('0' + dice.nextInt(numbers)) : (char) (tongue + dice.nextInt(words));
    }

    private void sayAll(String signs) {
        if (dice.nextInt(20) > 0) {
            call(1, 0, 0, 0);
        }
        for (char sign : signs.toCharArray()) {
            call(0, sign, 0, 0);
        }
        if (dice.nextInt(odd == 10 ? 4 : 30) == 0) {
            call(0, dice.nextBoolean() ? '=' : 33 + dice.nextInt(94), 0, 0);
        }
        if (dice.nextInt(4) == 0) {
            call(2, dice.nextInt(2), 0, 0);
        }
    }

    private void call(int which, int a, int b, int c) {
        if (calls >= 512 || Due.anyWrong()) {
            return;
        }
        calls++;
        past.append(NAMES[which]).append('(').append(a).append(' ').append(b).append(' ').append(c).append(") ");
        long got;
        try {
            got = ofProgram(which, a, b, c);
        } catch (RuntimeException thrown) {
            Due.holds(past + " threw " + thrown, false);
            return;
        }
        long want = ofModel(which, a, b, c);
        Due.due(got == want ? "" : past.toString(), got, want);
    }

    private static final String[] NAMES = {
        "say", "wipe", "fault", "keep", "write", "pair", "far", "match", "found", "filled", "rate",
        "price", "order", "kept", "must", "wrongs", "goes", "learnt", "otherwise", "clash", "length",
        "lengths", "laid", "image", "restore", "told"};

    private long ofProgram(int which, int a, int b, int c) {
        switch (which) {
            case 0: return x.say(a);
            case 1: return x.wipe();
            case 2: return x.fault(a);
            case 3: return x.keep(a);
            case 4: return x.write();
            case 5: return x.pair(a, place(b, c));
            case 6: return x.far(a, b);
            case 7: return x.match(a, b);
            case 8: return x.found(a, fewer(b));
            case 9: return x.filled(a, b);
            case 10: return x.rate(a, rateOf(b, c));
            case 11: return x.price(a);
            case 12: return x.order(a);
            case 13: return x.kept();
            case 14: return x.must(a, b);
            case 15: return x.wrongs();
            case 16: return x.goes(a, b, fewer(c));
            case 17: return x.learnt(a);
            case 18: return x.otherwise(few(a), few(b), few(c));
            case 19: return x.clash();
            case 20: return x.length(a, b);
            case 21: return x.lengths();
            case 22: return x.laid(a < 4 ? a - 2 : a);
            case 23: return x.image(a);
            case 24: return x.restore(a);
            default: return x.told(a);
        }
    }

    private long ofModel(int which, int a, int b, int c) {
        switch (which) {
            case 0: return y.say(a);
            case 1: return y.wipe();
            case 2: return y.fault(a);
            case 3: return y.keep(a);
            case 4: return y.write();
            case 5: return y.pair(a, place(b, c));
            case 6: return y.far(a, b);
            case 7: return y.match(a, b);
            case 8: return y.found(a, fewer(b));
            case 9: return y.filled(a, b);
            case 10: return y.rate(a, rateOf(b, c));
            case 11: return y.price(a);
            case 12: return y.order(a);
            case 13: return y.kept();
            case 14: return y.must(a, b);
            case 15: return y.wrongs();
            case 16: return y.goes(a, b, fewer(c));
            case 17: return y.learnt(a);
            case 18: return y.otherwise(few(a), few(b), few(c));
            case 19: return y.clash();
            case 20: return y.length(a, b);
            case 21: return y.lengths();
            case 22: return y.laid(a < 4 ? a - 2 : a);
            case 23: return y.image(a);
            case 24: return y.restore(a);
            default: return y.told(a);
        }
    }

    private static int place(int b, int c) {
        return c >= 0 && c < 5 ? b : c > 9 ? b + 100 : b + 200;
    }

    private static int rateOf(int b, int c) {
        return c % 2 == 0 ? b : b * 8;
    }

    private static int fewer(int n) {
        return n >= 0 && n < 11 ? n % 2 : n;
    }

    private int few(int n) {
        return n >= 0 && n < 12 ? n % words : n;
    }
}
