/**
 * A translator's memory of pairs of sentences: what was said already, how like it is to what is to
 * be said now, what that costs, and how words and texts of two tongues go together.
 *
 * All rows are made with the object and used again, so that no call makes an object.
 */
public final class SaidAlready {
    public static final int NONE = -6, UNKNOWN = -1, OUTSIDE = -2, STATE = -3, FULL = -4, NO = -5;
    public static final long LOST = -1000000000000000000L;

    private static final int MOST_ON_PAD = 30;
    private static final int MOST_SIGNS = 12;
    private static final int MOST_PAIRS = 12;
    private static final int MOST_SENTENCES = 10;
    private static final int MOST_LENGTHS = 12;
    private static final int WORDS = 16;
    private static final int BANDS = 5;
    private static final int LAST_BAND = 4;
    private static final int GREATEST_RATE = 99;
    private static final int GREATEST_LENGTH = 99;
    private static final int IMAGES = 2;
    private static final int AS_SENTENCE = 0;
    private static final int AS_PAIR = 1;
    private static final int FIRST_SIGNS_FROM = 100;
    private static final int SECOND_SIGNS_FROM = 200;
    private static final int RATES_FROM = 10;
    private static final int MUSTS_FROM = 20;
    // No text costs more than 11880 (10 times 12 signs at 99), no laying more than 3096 (24 times 129).
    private static final int ABOVE_ALL_COSTS = 1000000;
    private static final char BETWEEN = '=';
    private static final char ONE_TONGUE = 'a';
    private static final char OTHER_TONGUE = 'A';

    private final Row pad;
    private final Memory now;
    private final Memory[] images;
    private final boolean[] imaged;
    private final Likeness likeness;
    private final Prices prices;
    private final Laying laying;

    public SaidAlready() {
        pad = new Row(MOST_ON_PAD);
        now = new Memory();
        images = new Memory[IMAGES];
        for (int n = 0; n < IMAGES; n++) {
            images[n] = new Memory();
        }
        imaged = new boolean[IMAGES];
        likeness = new Likeness();
        prices = new Prices();
        laying = new Laying();
    }

    // ---- 1 pairs, sentences

    public int say(int sign) {
        if (sign < 33 || sign > 126) {
            return OUTSIDE;
        }
        return pad.add(sign) ? pad.size : FULL;
    }

    public int wipe() {
        int were = pad.size;
        pad.size = 0;
        return were;
    }

    public int fault(int how) {
        if (how == AS_SENTENCE) {
            return faultAsSentence();
        }
        return how == AS_PAIR ? faultAsPair() : OUTSIDE;
    }

    public int keep(int behind) {
        if (behind != -1 && !now.isPair(behind)) {
            return UNKNOWN;
        }
        if (now.pairs >= MOST_PAIRS) {
            return FULL;
        }
        if (faultAsPair() != NONE) {
            return NO;
        }
        int pair = now.pairs;
        int between = endOfTongue(0, ONE_TONGUE);
        now.first[pair].takePart(pad, 0, between);
        now.second[pair].takePart(pad, between + 1, pad.size);
        now.behind[pair] = behind == -1 ? NONE : behind;
        now.pairs++;
        likeness.meetPair(now, pair);
        pad.size = 0;
        return pair;
    }

    public int write() {
        if (now.sentences >= MOST_SENTENCES) {
            return FULL;
        }
        if (faultAsSentence() != NONE) {
            return NO;
        }
        int sentence = now.sentences;
        now.text[sentence].takePart(pad, 0, pad.size);
        now.sentences++;
        likeness.meetSentence(now, sentence);
        pad.size = 0;
        return sentence;
    }

    public int pair(int pair, int what) {
        if (!now.isPair(pair)) {
            return UNKNOWN;
        }
        switch (what) {
            case 0:
                return now.first[pair].size;
            case 1:
                return now.second[pair].size;
            case 2:
                return now.behind[pair];
            default:
                int sign = what < SECOND_SIGNS_FROM
                        ? now.first[pair].at(what - FIRST_SIGNS_FROM)
                        : now.second[pair].at(what - SECOND_SIGNS_FROM);
                return sign == NONE ? OUTSIDE : sign;
        }
    }

    /** The first place from a place on that can not go on a SENTENCE of the tongue begun there. */
    private int endOfTongue(int from, int tongue) {
        int place = from;
        while (place < pad.size && place < from + MOST_SIGNS && standsIn(tongue, pad.at(place))) {
            place++;
        }
        return place;
    }

    private static boolean standsIn(int tongue, int sign) {
        return isNumber(sign) || sign >= tongue && sign < tongue + WORDS;
    }

    private static boolean isNumber(int sign) {
        return sign >= '0' && sign <= '9';
    }

    private static boolean isWord(int word) {
        return word >= 0 && word < WORDS;
    }

    private int faultAsSentence() {
        int end = endOfTongue(0, ONE_TONGUE);
        return end < pad.size || end == 0 ? end : NONE;
    }

    private int faultAsPair() {
        int between = endOfTongue(0, ONE_TONGUE);
        if (between == 0 || pad.at(between) != BETWEEN) {
            return between;
        }
        int end = endOfTongue(between + 1, OTHER_TONGUE);
        return end < pad.size || end == between + 1 ? end : NONE;
    }

    // ---- 2 likeness

    public int far(int sentence, int other) {
        if (!now.isSentence(sentence) || !now.isSentence(other)) {
            return UNKNOWN;
        }
        return likeness.farOf(now.text[sentence], now.text[other]);
    }

    public int match(int sentence, int pair) {
        if (!now.isSentence(sentence) || !now.isPair(pair)) {
            return UNKNOWN;
        }
        return now.matches[sentence][pair];
    }

    public int found(int sentence, int what) {
        if (!now.isSentence(sentence)) {
            return UNKNOWN;
        }
        if (what != 0 && what != 1) {
            return OUTSIDE;
        }
        int pair = now.bestFor(sentence);
        return what == 0 || pair == NONE ? pair : now.matches[sentence][pair];
    }

    public int filled(int sentence, int i) {
        if (!now.isSentence(sentence)) {
            return UNKNOWN;
        }
        int pair = now.bestFor(sentence);
        if (pair == NONE || !Likeness.likeButForNumbers(now.text[sentence], now.first[pair])) {
            return NO;
        }
        if (i == -1) {
            return now.second[pair].size;
        }
        return signFilled(now.second[pair].at(i), now.first[pair], now.text[sentence]);
    }

    /** What a sign of the second SENTENCE becomes; no sign (NONE) stays none. */
    private static int signFilled(int sign, Row first, Row sentence) {
        if (!isNumber(sign)) {
            return sign;
        }
        int place = first.placeOf(sign);
        return place == NONE ? sign : sentence.at(place);
    }

    // ---- 3 prices

    public int rate(int band, int v) {
        if (band < 0 || band >= BANDS || v < 0 || v > GREATEST_RATE) {
            return OUTSIDE;
        }
        int was = now.rates[band];
        now.rates[band] = v;
        return was;
    }

    public int price(int sentence) {
        if (sentence == -1) {
            return Prices.ofText(now);
        }
        return now.isSentence(sentence) ? Prices.ofSentence(now, sentence) : UNKNOWN;
    }

    public int order(int what) {
        prices.putInOrder(now);
        return what == -1 ? prices.least() : prices.sequence.at(what);
    }

    public int kept() {
        return prices.fewestPairs(now);
    }

    // ---- 4 words

    public int must(int word, int as) {
        if (!isWord(word)) {
            return UNKNOWN;
        }
        if (as != -1 && !isWord(as)) {
            return OUTSIDE;
        }
        int was = now.musts[word];
        now.musts[word] = as == -1 ? NONE : as;
        return was;
    }

    public int wrongs() {
        int bits = 0;
        for (int pair = 0; pair < now.pairs; pair++) {
            if (Words.isWrong(now, pair)) {
                bits |= 1 << pair;
            }
        }
        return bits;
    }

    public long goes(int word, int with, int part) {
        if (!isWord(word) || !isWord(with)) {
            return LOST + UNKNOWN;
        }
        if (part != 0 && part != 1) {
            return LOST + OUTSIDE;
        }
        int upper = 2 * Words.pairsWithBoth(now, word, with);
        if (upper == 0) {
            return part == 0 ? 0 : 1;
        }
        int lower = Words.pairsWithEither(now, word, with);
        return part == 0 ? Words.lowered(upper, lower) : Words.lowered(lower, upper);
    }

    public int learnt(int word) {
        return isWord(word) ? Words.goesMost(now, word) : UNKNOWN;
    }

    public int otherwise(int word, int was, int becomes) {
        if (!isWord(word) || !isWord(was) || !isWord(becomes)) {
            return UNKNOWN;
        }
        // A WORD that becomes itself changes no sign.
        return was == becomes ? 0 : Words.change(now, word, was, becomes);
    }

    public int clash() {
        for (int pair = 0; pair < now.pairs; pair++) {
            for (int other = pair + 1; other < now.pairs; other++) {
                if (now.first[pair].sameAs(now.first[other])
                        && !now.second[pair].sameAs(now.second[other])) {
                    return 100 * pair + other;
                }
            }
        }
        return NONE;
    }

    // ---- 5 side by side

    public int length(int text, int v) {
        if (text < 0 || text > 1 || v < 1 || v > GREATEST_LENGTH) {
            return OUTSIDE;
        }
        Row lengths = text == 0 ? now.lengthsOfOne : now.lengthsOfOther;
        return lengths.add(v) ? lengths.size : FULL;
    }

    public int lengths() {
        int were = now.lengthsOfOne.size + now.lengthsOfOther.size;
        now.lengthsOfOne.size = 0;
        now.lengthsOfOther.size = 0;
        return were;
    }

    public long laid(int what) {
        laying.lay(now.lengthsOfOne, now.lengthsOfOther);
        switch (what) {
            case -1:
                return laying.costs[0][0];
            case -2:
                return laying.ways[0][0];
            case -3:
                return laying.steps.size;
            default:
                return laying.steps.at(what);
        }
    }

    public int image(int n) {
        if (n < 0 || n >= IMAGES) {
            return OUTSIDE;
        }
        images[n].take(now);
        imaged[n] = true;
        return 1;
    }

    public int restore(int n) {
        if (n < 0 || n >= IMAGES) {
            return OUTSIDE;
        }
        if (!imaged[n]) {
            return STATE;
        }
        now.take(images[n]);
        return 1;
    }

    public int told(int what) {
        switch (what) {
            case 0:
                return pad.size;
            case 1:
                return now.pairs;
            case 2:
                return now.sentences;
            case 3:
                return now.lengthsOfOne.size;
            case 4:
                return now.lengthsOfOther.size;
            default:
                return toldOfSettings(what);
        }
    }

    private int toldOfSettings(int what) {
        if (what >= RATES_FROM && what < RATES_FROM + BANDS) {
            return now.rates[what - RATES_FROM];
        }
        if (what >= MUSTS_FROM && what < MUSTS_FROM + WORDS) {
            return now.musts[what - MUSTS_FROM];
        }
        return OUTSIDE;
    }

    /** A row of numbers from 0 on, as long as its room at most. */
    private static final class Row {
        private final int[] values;
        int size;

        Row(int room) {
            values = new int[room < 0 ? 0 : room];
            size = 0;
        }

        boolean add(int value) {
            if (size < 0 || size >= values.length) {
                return false;
            }
            values[size] = value;
            size++;
            return true;
        }

        int at(int place) {
            return place >= 0 && place < size && place < values.length ? values[place] : NONE;
        }

        void put(int place, int value) {
            if (place >= 0 && place < size && place < values.length) {
                values[place] = value;
            }
        }

        int placeOf(int value) {
            for (int place = 0; place < size; place++) {
                if (at(place) == value) {
                    return place;
                }
            }
            return NONE;
        }

        int timesOf(int value) {
            int times = 0;
            for (int place = 0; place < size; place++) {
                if (at(place) == value) {
                    times++;
                }
            }
            return times;
        }

        boolean sameAs(Row other) {
            if (size != other.size) {
                return false;
            }
            for (int place = 0; place < size; place++) {
                if (at(place) != other.at(place)) {
                    return false;
                }
            }
            return true;
        }

        void takePart(Row other, int from, int to) {
            size = 0;
            for (int place = from; place < to; place++) {
                add(other.at(place));
            }
        }

        void take(Row other) {
            takePart(other, 0, other.size);
        }
    }

    /** All that an IMAGE keeps. */
    private static final class Memory {
        final Row[] first = new Row[MOST_PAIRS];
        final Row[] second = new Row[MOST_PAIRS];
        final int[] behind = new int[MOST_PAIRS];
        final Row[] text = new Row[MOST_SENTENCES];
        // How like two SENTENCES are never changes: it is found when the later one comes.
        final int[][] matches = new int[MOST_SENTENCES][MOST_PAIRS];
        final int[][] likes = new int[MOST_SENTENCES][MOST_SENTENCES];
        final int[] rates = {1, 2, 5, 9, 10};
        final int[] musts = new int[WORDS];
        final Row lengthsOfOne = new Row(MOST_LENGTHS);
        final Row lengthsOfOther = new Row(MOST_LENGTHS);
        int pairs;
        int sentences;

        Memory() {
            for (int pair = 0; pair < MOST_PAIRS; pair++) {
                first[pair] = new Row(MOST_SIGNS);
                second[pair] = new Row(MOST_SIGNS);
                behind[pair] = NONE;
            }
            for (int sentence = 0; sentence < MOST_SENTENCES; sentence++) {
                text[sentence] = new Row(MOST_SIGNS);
            }
            for (int word = 0; word < WORDS; word++) {
                musts[word] = NONE;
            }
            pairs = 0;
            sentences = 0;
        }

        boolean isPair(int pair) {
            return pair >= 0 && pair < pairs && pair < MOST_PAIRS;
        }

        boolean isSentence(int sentence) {
            return sentence >= 0 && sentence < sentences && sentence < MOST_SENTENCES;
        }

        int bestFor(int sentence) {
            int best = NONE;
            int greatest = 0;
            for (int pair = 0; pair < pairs; pair++) {
                if (matches[sentence][pair] >= greatest) {
                    greatest = matches[sentence][pair];
                    best = pair;
                }
            }
            return best;
        }

        /** Whether ahead of the SENTENCE stands what stood ahead of the PAIR. */
        boolean standsAsBefore(int sentence, int pair) {
            int ahead = sentence - 1;
            return isSentence(ahead) && isPair(pair) && isPair(behind[pair])
                    && text[ahead].sameAs(first[behind[pair]]);
        }

        void take(Memory other) {
            takePairs(other);
            takeText(other);
            for (int band = 0; band < BANDS; band++) {
                rates[band] = other.rates[band];
            }
            for (int word = 0; word < WORDS; word++) {
                musts[word] = other.musts[word];
            }
            lengthsOfOne.take(other.lengthsOfOne);
            lengthsOfOther.take(other.lengthsOfOther);
        }

        private void takePairs(Memory other) {
            for (int pair = 0; pair < MOST_PAIRS; pair++) {
                first[pair].take(other.first[pair]);
                second[pair].take(other.second[pair]);
                behind[pair] = other.behind[pair];
            }
            pairs = other.pairs;
        }

        private void takeText(Memory other) {
            for (int sentence = 0; sentence < MOST_SENTENCES; sentence++) {
                text[sentence].take(other.text[sentence]);
                for (int pair = 0; pair < MOST_PAIRS; pair++) {
                    matches[sentence][pair] = other.matches[sentence][pair];
                }
                for (int with = 0; with < MOST_SENTENCES; with++) {
                    likes[sentence][with] = other.likes[sentence][with];
                }
            }
            sentences = other.sentences;
        }
    }

    /** How like SENTENCES are. */
    private static final class Likeness {
        private static final int ONE_SIGN = 4;
        private static final int ONE_NUMBER = 1;
        static final int SAME = 100;
        static final int SAME_AND_BEHIND_THE_SAME = 101;

        // One line of the table is enough: what lies right of the place is still the line above.
        private final int[] costs = new int[MOST_SIGNS + 1];

        int farOf(Row one, Row other) {
            int width = Math.min(other.size, MOST_SIGNS);
            for (int j = 0; j <= width; j++) {
                costs[j] = ONE_SIGN * j;
            }
            for (int i = 0; i < one.size; i++) {
                int across = costs[0];
                costs[0] = ONE_SIGN * (i + 1);
                for (int j = 1; j <= width; j++) {
                    int above = costs[j];
                    int changed = across + costOfChange(one.at(i), other.at(j - 1));
                    int putOrTaken = Math.min(above, costs[j - 1]) + ONE_SIGN;
                    costs[j] = Math.min(changed, putOrTaken);
                    across = above;
                }
            }
            return costs[width];
        }

        private static int costOfChange(int sign, int other) {
            if (sign == other) {
                return 0;
            }
            return isNumber(sign) && isNumber(other) ? ONE_NUMBER : ONE_SIGN;
        }

        private int likeOf(Row one, Row other) {
            int longer = Math.max(one.size, other.size);
            return longer < 1 ? SAME : SAME - 25 * farOf(one, other) / longer;
        }

        private int matchOf(Memory memory, int sentence, int pair) {
            int like = likeOf(memory.text[sentence], memory.first[pair]);
            boolean behindTheSame = like == SAME && memory.standsAsBefore(sentence, pair);
            return behindTheSame ? SAME_AND_BEHIND_THE_SAME : like;
        }

        void meetPair(Memory memory, int pair) {
            for (int sentence = 0; sentence < memory.sentences; sentence++) {
                memory.matches[sentence][pair] = matchOf(memory, sentence, pair);
            }
        }

        void meetSentence(Memory memory, int sentence) {
            for (int pair = 0; pair < memory.pairs; pair++) {
                memory.matches[sentence][pair] = matchOf(memory, sentence, pair);
            }
            for (int other = 0; other < memory.sentences; other++) {
                int like = likeOf(memory.text[sentence], memory.text[other]);
                memory.likes[sentence][other] = like;
                memory.likes[other][sentence] = like;
            }
        }

        static boolean likeButForNumbers(Row one, Row other) {
            if (one.size != other.size) {
                return false;
            }
            for (int place = 0; place < one.size; place++) {
                if (costOfChange(one.at(place), other.at(place)) == ONE_SIGN) {
                    return false;
                }
            }
            return true;
        }
    }

    /** What THE TEXT costs. */
    private static final class Prices {
        private final int[] rateByMemory = new int[MOST_SENTENCES];
        private final int[][] helpers = new int[MOST_SENTENCES][BANDS];
        // By the set of SENTENCES that are done.
        private final int[] priceOfRest = new int[1 << MOST_SENTENCES];
        private final int[] nextBehind = new int[1 << MOST_SENTENCES];
        private final int[] needed = new int[MOST_SENTENCES];
        final Row sequence = new Row(MOST_SENTENCES);

        private static int bandOf(int match) {
            if (match > Likeness.SAME) {
                return 0;
            }
            if (match == Likeness.SAME) {
                return 1;
            }
            if (match >= 85) {
                return 2;
            }
            return match >= 60 ? 3 : LAST_BAND;
        }

        private static int bandFound(Memory memory, int sentence) {
            int pair = memory.bestFor(sentence);
            return pair == NONE ? LAST_BAND : bandOf(memory.matches[sentence][pair]);
        }

        static int ofSentence(Memory memory, int sentence) {
            int band = bandFound(memory, sentence);
            return memory.text[sentence].size * memory.rates[band];
        }

        static int ofText(Memory memory) {
            int together = 0;
            for (int sentence = 0; sentence < memory.sentences; sentence++) {
                together += ofSentence(memory, sentence);
            }
            return together;
        }

        /** From the full set down: what comes behind a set is known by larger sets. */
        void putInOrder(Memory memory) {
            readRatesByMemory(memory);
            readHelpers(memory);
            int all = (1 << memory.sentences) - 1;
            priceOfRest[all] = 0;
            for (int done = all - 1; done >= 0; done--) {
                chooseNext(memory, done);
            }
            sequence.size = 0;
            int done = 0;
            for (int i = 0; i < memory.sentences; i++) {
                int next = nextBehind[done];
                sequence.add(next);
                done |= 1 << next;
            }
        }

        int least() {
            return priceOfRest[0];
        }

        private void readRatesByMemory(Memory memory) {
            for (int sentence = 0; sentence < memory.sentences; sentence++) {
                int rate = memory.rates[LAST_BAND];
                for (int pair = 0; pair < memory.pairs; pair++) {
                    int band = bandOf(memory.matches[sentence][pair]);
                    rate = Math.min(rate, memory.rates[band]);
                }
                rateByMemory[sentence] = rate;
            }
        }

        private void readHelpers(Memory memory) {
            for (int sentence = 0; sentence < memory.sentences; sentence++) {
                for (int band = 0; band < BANDS; band++) {
                    helpers[sentence][band] = 0;
                }
                for (int other = 0; other < memory.sentences; other++) {
                    helpers[sentence][bandOf(memory.likes[sentence][other])] |= 1 << other;
                }
            }
        }

        /** The first SENTENCE not done yet that leads on to the least price. */
        private void chooseNext(Memory memory, int done) {
            int least = ABOVE_ALL_COSTS;
            for (int sentence = 0; sentence < memory.sentences; sentence++) {
                if ((done & 1 << sentence) == 0) {
                    int price = priceWith(memory, done, sentence);
                    if (price < least) {
                        least = price;
                        nextBehind[done] = sentence;
                    }
                }
            }
            priceOfRest[done] = least;
        }

        private int priceWith(Memory memory, int done, int sentence) {
            int rate = rateByMemory[sentence];
            // BAND 4 is in the RATE by memory, and no LIKE is of BAND 0.
            for (int band = 1; band < LAST_BAND; band++) {
                if ((helpers[sentence][band] & done) != 0) {
                    rate = Math.min(rate, memory.rates[band]);
                }
            }
            return memory.text[sentence].size * rate + priceOfRest[done | 1 << sentence];
        }

        /** Fewer PAIRS never give a better BAND than FOUND has: one PAIR of that BAND is enough. */
        int fewestPairs(Memory memory) {
            readNeeded(memory);
            int fewest = (1 << memory.pairs) - 1;
            int count = memory.pairs;
            for (int set = 0; set < 1 << memory.pairs; set++) {
                int pairs = Integer.bitCount(set);
                if (pairs < count && isEnough(memory, set)) {
                    fewest = set;
                    count = pairs;
                }
            }
            return fewest;
        }

        /** Of each SENTENCE the PAIRS of which one must stay; none, if FOUND has BAND 4. */
        private void readNeeded(Memory memory) {
            for (int sentence = 0; sentence < memory.sentences; sentence++) {
                int band = bandFound(memory, sentence);
                needed[sentence] = 0;
                for (int pair = 0; pair < memory.pairs && band != LAST_BAND; pair++) {
                    if (bandOf(memory.matches[sentence][pair]) == band) {
                        needed[sentence] |= 1 << pair;
                    }
                }
            }
        }

        private boolean isEnough(Memory memory, int set) {
            for (int sentence = 0; sentence < memory.sentences; sentence++) {
                if (needed[sentence] != 0 && (needed[sentence] & set) == 0) {
                    return false;
                }
            }
            return true;
        }
    }

    /** Which WORDS of the one tongue stand for which of the other one. */
    private static final class Words {
        static boolean isWrong(Memory memory, int pair) {
            for (int as = 0; as < WORDS; as++) {
                int times = 0;
                boolean asked = false;
                for (int word = 0; word < WORDS; word++) {
                    if (memory.musts[word] == as) {
                        asked = true;
                        times += memory.first[pair].timesOf(ONE_TONGUE + word);
                    }
                }
                if (asked && times != memory.second[pair].timesOf(OTHER_TONGUE + as)) {
                    return true;
                }
            }
            return false;
        }

        private static boolean inFirst(Memory memory, int pair, int word) {
            return memory.first[pair].placeOf(ONE_TONGUE + word) != NONE;
        }

        private static boolean inSecond(Memory memory, int pair, int word) {
            return memory.second[pair].placeOf(OTHER_TONGUE + word) != NONE;
        }

        static int pairsWithBoth(Memory memory, int word, int with) {
            int pairs = 0;
            for (int pair = 0; pair < memory.pairs; pair++) {
                if (inFirst(memory, pair, word) && inSecond(memory, pair, with)) {
                    pairs++;
                }
            }
            return pairs;
        }

        /** The PAIRS with the one and those with the other: a PAIR with both counts twice. */
        static int pairsWithEither(Memory memory, int word, int with) {
            int pairs = 0;
            for (int pair = 0; pair < memory.pairs; pair++) {
                if (inFirst(memory, pair, word)) {
                    pairs++;
                }
                if (inSecond(memory, pair, with)) {
                    pairs++;
                }
            }
            return pairs;
        }

        /** A part of a fraction in lowest terms, by the fraction's other part. */
        static int lowered(int part, int other) {
            for (int divisor = part; divisor > 1; divisor--) {
                if (part % divisor == 0 && other % divisor == 0) {
                    return part / divisor;
                }
            }
            return part;
        }

        static int goesMost(Memory memory, int word) {
            int most = NONE;
            int mostUpper = 0;
            int mostLower = 1;
            for (int with = 0; with < WORDS; with++) {
                int upper = pairsWithBoth(memory, word, with);
                int lower = pairsWithEither(memory, word, with);
                if (upper * mostLower > mostUpper * lower) {
                    most = with;
                    mostUpper = upper;
                    mostLower = lower;
                }
            }
            return most;
        }

        static int change(Memory memory, int word, int was, int becomes) {
            int changed = 0;
            for (int pair = 0; pair < memory.pairs; pair++) {
                if (inFirst(memory, pair, word)) {
                    Row second = memory.second[pair];
                    changed += changeIn(second, OTHER_TONGUE + was, OTHER_TONGUE + becomes);
                }
            }
            return changed;
        }

        private static int changeIn(Row second, int was, int becomes) {
            int changed = 0;
            for (int place = 0; place < second.size; place++) {
                if (second.at(place) == was) {
                    second.put(place, becomes);
                    changed++;
                }
            }
            return changed;
        }
    }

    /** Two texts laid side by side by their LENGTHS. */
    private static final class Laying {
        private static final int STEPS = 6;
        private static final int[] OF_ONE = {1, 1, 0, 2, 1, 2};
        private static final int[] OF_OTHER = {1, 0, 1, 1, 2, 2};
        private static final int[] BESIDES = {0, 30, 30, 10, 10, 15};

        // Of what lies behind a place in both texts.
        final int[][] costs = new int[MOST_LENGTHS + 1][MOST_LENGTHS + 1];
        final long[][] ways = new long[MOST_LENGTHS + 1][MOST_LENGTHS + 1];
        final Row steps = new Row(2 * MOST_LENGTHS);

        void lay(Row one, Row other) {
            for (int i = one.size; i >= 0; i--) {
                for (int j = other.size; j >= 0; j--) {
                    layFrom(one, i, other, j);
                }
            }
            readSteps(one, other);
        }

        private void layFrom(Row one, int i, Row other, int j) {
            boolean atEnd = i == one.size && j == other.size;
            int least = atEnd ? 0 : ABOVE_ALL_COSTS;
            long count = atEnd ? 1 : 0;
            for (int step = 0; step < STEPS; step++) {
                if (fits(one, i, other, j, step)) {
                    int cost = costWith(one, i, other, j, step);
                    long more = ways[i + OF_ONE[step]][j + OF_OTHER[step]];
                    if (cost < least) {
                        least = cost;
                        count = more;
                    } else if (cost == least) {
                        count += more;
                    }
                }
            }
            costs[i][j] = least;
            ways[i][j] = count;
        }

        private static boolean fits(Row one, int i, Row other, int j, int step) {
            return i + OF_ONE[step] <= one.size && j + OF_OTHER[step] <= other.size;
        }

        private int costWith(Row one, int i, Row other, int j, int step) {
            int apart = together(one, i, OF_ONE[step]) - together(other, j, OF_OTHER[step]);
            return Math.abs(apart) + BESIDES[step] + costs[i + OF_ONE[step]][j + OF_OTHER[step]];
        }

        private static int together(Row lengths, int from, int count) {
            int sum = 0;
            for (int place = from; place < from + count; place++) {
                sum += lengths.at(place);
            }
            return sum;
        }

        private void readSteps(Row one, Row other) {
            steps.size = 0;
            int i = 0;
            int j = 0;
            // Each step goes on by one LENGTH at least.
            for (int most = one.size + other.size; most > 0; most--) {
                int step = firstOfLeast(one, i, other, j);
                if (step == NONE) {
                    return;
                }
                steps.add(step);
                i += OF_ONE[step];
                j += OF_OTHER[step];
            }
        }

        private int firstOfLeast(Row one, int i, Row other, int j) {
            for (int step = 0; step < STEPS; step++) {
                if (fits(one, i, other, j, step)
                        && costWith(one, i, other, j, step) == costs[i][j]) {
                    return step;
                }
            }
            return NONE;
        }
    }
}
