import java.util.List;

/** The boundaries of part 1: signs, sentences, pairs (promises 1 to 7). */
final class PadBoundaries extends Given {
    private static final String TWELVE = "abcdefgh0189", OTHER_TWELVE = "ABCDEFGH0189";

    private PadBoundaries() {
    }

    private static boolean inTongue(int code, char first, char last) {
        return code >= first && code <= last || code >= '0' && code <= '9';
    }

    private static int writeNew(String signs) {
        return said(signs).write();
    }

    private static int keepNew(String signs) {
        return said(signs).keep(-1);
    }

    private static SaidAlready pairs(int n) {
        SaidAlready x = new SaidAlready();
        for (int i = 0; i < n; i++) {
            keep(x, "a" + i % 10 + "=A" + i % 10, -1);
        }
        return x;
    }

    private static SaidAlready sentences(int n) {
        SaidAlready x = new SaidAlready();
        for (int i = 0; i < n; i++) {
            write(x, "a" + i);
        }
        return x;
    }

    // ---- Terms 1

    @Says(at = "Terms 1", words = "A SENTENCE is a row of 1 to 12 signs")
    static void terms1ASentenceHasOneToTwelveSigns() {
        for (int n = 0; n <= 17; n++) {
            String one = "a".repeat(n);
            String other = "A".repeat(n);
            boolean good = n >= 1 && n <= 12;
            due("a SENTENCE of " + n, fault(one, 0), good ? NONE : n == 0 ? 0 : 12);
            due("a first SENTENCE of " + n, fault(one + "=A", 1), good ? NONE : n == 0 ? 0 : 12);
            due("a second SENTENCE of " + n, fault("a=" + other, 1), good ? NONE : n == 0 ? 2 : 14);
            due("write of " + n, writeNew(one), good ? 0 : NO);
            due("keep of a first of " + n, keepNew(one + "=A"), good ? 0 : NO);
            due("keep of a second of " + n, keepNew("a=" + other), good ? 0 : NO);
        }
    }

    @Says(at = "Terms 1", words = "WORDS (a to p of the one tongue")
    static void terms1WordsOfTheOneTongueAreAToP() {
        for (int code = 33; code <= 126; code++) {
            String sign = "" + (char) code;
            boolean stands = inTongue(code, 'a', 'p');
            due("SENTENCE " + sign, fault(sign, 0), stands ? NONE : 0);
            due("SENTENCE a" + sign + "a", fault("a" + sign + "a", 0), stands ? NONE : 1);
            due("PAIR " + sign + "=A", fault(sign + "=A", 1), stands ? NONE : 0);
        }
    }

    @Says(at = "Terms 1", words = "A to P of the other one")
    static void terms1WordsOfTheOtherTongueAreAToP() {
        for (int code = 33; code <= 126; code++) {
            String sign = "" + (char) code;
            boolean stands = inTongue(code, 'A', 'P');
            due("PAIR a=" + sign, fault("a=" + sign, 1), stands ? NONE : 2);
            due("PAIR a=A" + sign + "A", fault("a=A" + sign + "A", 1), stands ? NONE : 3);
        }
    }

    @Says(at = "Terms 1", words = "WORDS 0 to 15 of each")
    static void terms1WordZeroIsTheFirstLetterAndFifteenTheLast() {
        for (int word = 0; word < 16; word++) {
            SaidAlready x = kept((char) ('a' + word) + "=" + (char) ('P' - word));
            for (int other = 0; other < 16; other++) {
                due("learnt(" + other + ")", x.learnt(other), other == word ? 15 - word : NONE);
                due("goes(" + word + ", " + other + ")", x.goes(word, other, 0), other == 15 - word ? 1 : 0);
            }
            due("otherwise", x.otherwise(word, 15 - word, word), 1);
            same("said otherwise", second(x, 0), "" + (char) ('A' + word));
        }
    }

    @Says(at = "Terms 1", words = "and NUMBERS (digits 0 to 9)")
    static void terms1NumbersAreZeroToNine() {
        due("all digits as a SENTENCE", fault("0123456789", 0), NONE);
        due("all digits as a PAIR", fault("0123456789=9876543210", 1), NONE);
        due("the code below 0", fault("/", 0), 0);
        due("the code above 9", fault(":", 0), 0);
        due("the code below 0 as a second", fault("0=/", 1), 2);
        due("the code above 9 as a second", fault("0=:", 1), 2);
        due("0 and 9 are NUMBERS both", far("0", "9"), 1);
    }

    @Says(at = "Terms 1", words = "On a PAD of SIGNS (codes 33 to 126, 30 at most)")
    static void terms1ThePadTakesCodes33To126And30OfThem() {
        for (int code = 33; code <= 126; code++) {
            due("say(" + code + ")", new SaidAlready().say(code), 1);
        }
        due("say(32)", new SaidAlready().say(32), OUTSIDE);
        due("say(127)", new SaidAlready().say(127), OUTSIDE);
        SaidAlready x = said("a".repeat(29));
        due("a 30th", x.say('!'), 30);
        due("a 31st", x.say('!'), FULL);
    }

    @Says(at = "Terms 1",
            words = "stands a SENTENCE of the one tongue, or a PAIR: that, = and one of the other tongue.")
    static void terms1APairIsOneTongueEqualsOtherTongue() {
        for (int code = 33; code <= 126; code++) {
            int due = code == '=' ? NONE : inTongue(code, 'a', 'p') ? 2 : 1;
            due("a" + (char) code + "A", fault("a" + (char) code + "A", 1), due);
        }
        due("the tongues the other way round", fault("A=a", 1), 0);
        due("the one tongue twice", fault("a=a", 1), 2);
        due("the other tongue twice", fault("A=A", 1), 0);
        due("= twice together", fault("a==A", 1), 2);
        due("= twice", fault("a=A=A", 1), 3);
        due("NUMBERS are of both tongues", fault("1=1", 1), NONE);
        due("a SENTENCE is of the one tongue", fault("A", 0), 0);
        due("a PAIR is no SENTENCE", fault("a=A", 0), 1);
        due("a SENTENCE is no PAIR", fault("a", 1), 1);
    }

    @Says(at = "Terms 1", words = {"THE FAULT (how 0: as a SENTENCE, 1: as a PAIR):",
        "the place (from 0 on) of the first sign that can not stand there"})
    static void terms1TheFaultIsTheFirstPlaceFromZeroOn() {
        for (int place = 0; place < 12; place++) {
            String signs = TWELVE.substring(0, place) + "~";
            due("SENTENCE with a fault at " + place, fault(signs, 0), place);
            due("and one behind it", fault(signs + "~" + "a", 0), place);
            due("first SENTENCE with a fault at " + place, fault(signs + "=A", 1), place);
            String pair = TWELVE + "=" + OTHER_TWELVE.substring(0, place) + "~";
            due("second SENTENCE with a fault at " + place, fault(pair + "~", 1), 13 + place);
        }
        due("the one tongue in the other", fault(TWELVE + "=A" + "a", 1), 14);
        due("the other tongue in the one", fault("aA", 0), 1);
    }

    @Says(at = "Terms 1", words = "(a 13th of a SENTENCE can not)")
    static void terms1AThirteenthSignCanNotStand() {
        due("12", fault(TWELVE, 0), NONE);
        due("13", fault(TWELVE + "a", 0), 12);
        due("30", fault("a".repeat(30), 0), 12);
        due("12 of the first", fault(TWELVE + "=A", 1), NONE);
        due("13 of the first", fault(TWELVE + "a=A", 1), 12);
        due("13 of the first and no more", fault(TWELVE + "a", 1), 12);
        due("12 of both", fault(TWELVE + "=" + OTHER_TWELVE, 1), NONE);
        due("13 of the second", fault(TWELVE + "=" + OTHER_TWELVE + "A", 1), 25);
        due("13 of the second behind a short first", fault("a=" + OTHER_TWELVE + "A", 1), 14);
        due("17 of the second", fault(TWELVE + "=" + "A".repeat(17), 1), 25);
        due("a fault ahead of the 13th", fault("abcdefgh~1890", 0), 8);
        due("a wrong sign at the 13th", fault(TWELVE + "~", 0), 12);
    }

    @Says(at = "Terms 1", words = "the number of signs, if more must come.")
    static void terms1TheNumberOfSignsIfMoreMustCome() {
        due("nothing as a SENTENCE", fault("", 0), 0);
        due("nothing as a PAIR", fault("", 1), 0);
        for (int n = 1; n <= 12; n++) {
            String first = TWELVE.substring(0, n);
            due(first + " as a PAIR", fault(first, 1), n);
            due(first + "= as a PAIR", fault(first + "=", 1), n + 1);
            due(first + "=A as a PAIR", fault(first + "=A", 1), NONE);
        }
    }

    @Says(at = "Terms 1", words = "THE MEMORY: PAIRS, 12 at most")
    static void terms1TheMemoryHoldsTwelvePairs() {
        SaidAlready x = pairs(11);
        due("a 12th", keep(x, "l=L", 10), 11);
        due("a 13th", keep(x, "m=M", 11), FULL);
        due("12 are kept", x.told(1), 12);
        same("the 12th is kept", first(x, 11) + second(x, 11), "lL");
    }

    @Says(at = "Terms 1", words = "numbered as they were put in")
    static void terms1PairsAreNumberedAsTheyWerePutIn() {
        SaidAlready x = pairs(10);
        for (int n = 0; n < 10; n++) {
            same("PAIR " + n, first(x, n) + second(x, n), "a" + n + "A" + n);
        }
        due("one that was there already is another one", keep(x, "a0=A0", -1), 10);
        same("PAIR 10", first(x, 10) + second(x, 10), "a0A0");
    }

    @Says(at = "Terms 1",
            words = "each knows which PAIR it stood BEHIND when it was put in: the one told (or none).")
    static void terms1EachPairKnowsWhichItStoodBehind() {
        int[] behind = {-1, 0, 0, -1, 3, 2, 5, 6, 0, 8, 9, 10};
        SaidAlready x = new SaidAlready();
        for (int n = 0; n < 12; n++) {
            keep(x, "a=A", behind[n]);
        }
        for (int n = 0; n < 12; n++) {
            due("PAIR " + n + " stood behind", x.pair(n, 2), behind[n] == -1 ? NONE : behind[n]);
        }
    }

    @Says(at = "Terms 1", words = "THE TEXT: SENTENCES of the one tongue, 10 at most, numbered as they stand.")
    static void terms1TheTextHoldsTenSentences() {
        SaidAlready x = new SaidAlready();
        for (int n = 0; n < 10; n++) {
            due("write", write(x, "a".repeat(1 + n)), n);
        }
        for (int n = 0; n < 10; n++) {
            due("SENTENCE " + n + " has its signs", x.price(n), 10 * (1 + n));
        }
        due("an 11th", write(x, "a"), FULL);
        due("10 stand", x.told(2), 10);
        due("of the one tongue alone", writeNew("A"), NO);
    }

    // ---- Promise 1

    @Says(at = "Promise 1", words = "Nothing is kept, THE TEXT is empty.")
    static void promise1ANewObjectIsEmpty() {
        SaidAlready x = new SaidAlready();
        for (int what = 0; what < 5; what++) {
            due("told(" + what + ")", x.told(what), 0);
        }
        due("there is no PAIR", x.pair(0, 0), UNKNOWN);
        due("there is no SENTENCE", x.price(0), UNKNOWN);
        due("there are no signs", x.wipe(), 0);
        due("there are no LENGTHS", x.lengths(), 0);
        due("there is no MUST", x.told(20), NONE);
        due("there is no IMAGE 0", x.restore(0), STATE);
        due("there is no IMAGE 1", x.restore(1), STATE);
        full();
        due("another object is full, this one is empty", x.told(1) + x.told(2), 0);
        due("a new one is empty too", new SaidAlready().told(1) + new SaidAlready().told(2), 0);
    }

    private static void full() {
        SaidAlready x = RefusalBoundaries.full();
        due("full", x.told(1) + x.told(2), 22);
    }

    // ---- Promise 2

    @Says(at = "Promise 2", words = "A sign more: how many.")
    static void promise2SayCountsFromOneToThirty() {
        SaidAlready x = new SaidAlready();
        for (int n = 1; n <= 30; n++) {
            due("say", x.say(32 + n), n);
        }
        x.wipe();
        due("say behind wipe", x.say('a'), 1);
        x.write();
        due("say behind write", x.say('a'), 1);
        say(x, "=A");
        x.keep(-1);
        due("say behind keep", x.say('a'), 1);
    }

    @Says(at = "Promise 2", words = "OUTSIDE")
    static void promise2OutsideIsACodeBelow33OrAbove126() {
        eachAnswers("say", SaidAlready::new, allBut(33, 126), (x, n) -> x.say(n), OUTSIDE);
        eachAnswers("say", RefusalBoundaries::full, allBut(33, 126), (x, n) -> x.say(n), OUTSIDE);
    }

    @Says(at = "Promise 2", words = "FULL")
    static void promise2FullIsA31stSign() {
        SaidAlready x = said("a".repeat(30));
        for (int code = 33; code <= 126; code++) {
            due("say(" + code + ")", x.say(code), FULL);
        }
        due("30 are there", x.told(0), 30);
        due("30 go", x.wipe(), 30);
        say(x, "a".repeat(29));
        due("30 stand again", x.say('a'), 30);
        due("31 do not", x.say('a'), FULL);
    }

    // ---- Promise 3

    @Says(at = "Promise 3", words = "Signs go: how many there were.")
    static void promise3WipeOfNoneOneAndThirty() {
        for (int n : new int[] {0, 1, 12, 13, 29, 30}) {
            SaidAlready x = said("~".repeat(n));
            due("wipe of " + n, x.wipe(), n);
            due("none are left", x.told(0), 0);
            due("wipe again", x.wipe(), 0);
            due("more must come", x.fault(0), 0);
        }
        SaidAlready x = RefusalBoundaries.some();
        String pairs = Look.pairs(x);
        x.wipe();
        same("all else stays", Look.pairs(x), pairs);
        due("SENTENCES stay", x.told(2), 3);
    }

    // ---- Promise 4

    @Says(at = "Promise 4", words = {"THE FAULT", "NONE"})
    static void promise4NoneIsASentenceOrAPairThatIsWhole() {
        due("the shortest SENTENCE", fault("a", 0), NONE);
        due("the longest SENTENCE", fault(TWELVE, 0), NONE);
        due("the shortest PAIR", fault("a=A", 1), NONE);
        due("the longest PAIR", fault(TWELVE + "=" + OTHER_TWELVE, 1), NONE);
        due("a FAULT at 0 is not NONE", fault("~", 0), 0);
        SaidAlready x = said("ab=");
        due("as a SENTENCE", x.fault(0), 2);
        due("as a PAIR", x.fault(1), 3);
        due("the signs stay", x.told(0), 3);
        x.say('A');
        due("as a PAIR", x.fault(1), NONE);
        due("as a SENTENCE", x.fault(0), 2);
    }

    @Says(at = "Promise 4", words = "OUTSIDE")
    static void promise4OutsideIsAnotherHow() {
        eachAnswers("fault", () -> said("a=A"), allBut(0, 1), (x, n) -> x.fault(n), OUTSIDE);
        eachAnswers("fault", SaidAlready::new, allBut(0, 1), (x, n) -> x.fault(n), OUTSIDE);
    }

    // ---- Promise 5

    @Says(at = "Promise 5", words = {"The PAD becomes a PAIR", "its number"})
    static void promise5KeepAnswersNumbersFromZeroToEleven() {
        SaidAlready x = new SaidAlready();
        for (int n = 0; n < 12; n++) {
            due("keep", keep(x, (char) ('a' + n) + "1=2" + (char) ('A' + n), -1), n);
            due("PAIRS", x.told(1), n + 1);
        }
        for (int n = 0; n < 12; n++) {
            same("PAIR " + n, first(x, n) + second(x, n), (char) ('a' + n) + "12" + (char) ('A' + n));
        }
        SaidAlready longest = kept(TWELVE + "=" + OTHER_TWELVE);
        same("the longest first", first(longest, 0), TWELVE);
        same("the longest second", second(longest, 0), OTHER_TWELVE);
    }

    @Says(at = "Promise 5", words = "(it is empty then)")
    static void promise5ThePadIsEmptyBehindKeep() {
        for (String pair : new String[] {"a=A", TWELVE + "=" + OTHER_TWELVE}) {
            SaidAlready x = said(pair);
            x.keep(-1);
            due("signs", x.told(0), 0);
            due("none go", x.wipe(), 0);
            due("it can not be kept twice", x.keep(-1), NO);
        }
    }

    @Says(at = "Promise 5", words = "that stood BEHIND one (-1: none)")
    static void promise5MinusOneIsBehindNone() {
        SaidAlready x = pairs(5);
        due("behind none", keep(x, "a=A", -1), 5);
        due("the first one, behind none", x.pair(0, 2), NONE);
        due("behind none", x.pair(5, 2), NONE);
        due("behind the first", keep(x, "a=A", 0), 6);
        due("behind the first", x.pair(6, 2), 0);
        due("behind the last", keep(x, "a=A", 6), 7);
        due("behind the last", x.pair(7, 2), 6);
    }

    @Says(at = "Promise 5", words = "UNKNOWN: that PAIR")
    static void promise5UnknownIsAPairThatIsNot() {
        for (int n : new int[] {0, 1, 11, 12}) {
            Made made = () -> {
                SaidAlready x = pairs(n);
                say(x, "a=A");
                return x;
            };
            eachAnswers("keep behind one of " + n, made, allBut(-1, n - 1), (x, p) -> x.keep(p), UNKNOWN);
        }
        due("not behind itself", keep(pairs(3), "a=A", 3), UNKNOWN);
        SaidAlready x = pairs(2);
        x.image(0);
        keep(x, "b=B", -1);
        x.restore(0);
        due("not behind one that is no more", keep(x, "a=A", 2), UNKNOWN);
        due("behind one that is", x.keep(1), 2);
    }

    @Says(at = "Promise 5", words = "FULL")
    static void promise5FullIsA13thPair() {
        SaidAlready x = pairs(12);
        due("of nothing", x.keep(-1), FULL);
        say(x, "a=A");
        due("behind none", x.keep(-1), FULL);
        for (int n = 0; n < 12; n++) {
            due("behind " + n, x.keep(n), FULL);
        }
        due("the signs stay", x.told(0), 3);
        due("12 PAIRS", x.told(1), 12);
    }

    @Says(at = "Promise 5", words = "NO: there is a FAULT")
    static void promise5NoIsAFaultAsAPair() {
        String[] faults = {"", "a", "a=", "=A", "a=a", "A=A", "a==A", "a=A=", TWELVE, TWELVE + "a=A",
            TWELVE + "=" + OTHER_TWELVE + "A", "~=A", "a=~", "a~A"};
        for (String signs : faults) {
            SaidAlready x = said(signs);
            due("keep of " + signs, x.keep(-1), NO);
            due("the signs stay", x.told(0), signs.length());
            due("no PAIR", x.told(1), 0);
        }
        SaidAlready mended = said("a=");
        mended.keep(-1);
        mended.say('A');
        due("what is mended is kept", mended.keep(-1), 0);
    }

    // ---- Promise 6

    @Says(at = "Promise 6", words = {"The PAD becomes the next SENTENCE of THE TEXT", "its number"})
    static void promise6WriteAnswersNumbersFromZeroToNine() {
        SaidAlready x = new SaidAlready();
        for (int n = 0; n < 10; n++) {
            due("write", write(x, "a".repeat(12 - n)), n);
            due("SENTENCES", x.told(2), n + 1);
        }
        for (int n = 0; n < 10; n++) {
            due("the signs of SENTENCE " + n, x.price(n), 10 * (12 - n));
        }
    }

    @Says(at = "Promise 6", words = "(it is empty then)")
    static void promise6ThePadIsEmptyBehindWrite() {
        for (String sentence : new String[] {"a", TWELVE}) {
            SaidAlready x = said(sentence);
            x.write();
            due("signs", x.told(0), 0);
            due("none go", x.wipe(), 0);
            due("it can not be written twice", x.write(), NO);
        }
    }

    @Says(at = "Promise 6", words = "FULL")
    static void promise6FullIsAn11thSentence() {
        SaidAlready x = sentences(9);
        due("a 10th", write(x, "b"), 9);
        due("of nothing", x.write(), FULL);
        say(x, "b");
        due("an 11th", x.write(), FULL);
        due("the sign stays", x.told(0), 1);
        due("10 SENTENCES", x.told(2), 10);
    }

    @Says(at = "Promise 6", words = "NO: there is a FAULT")
    static void promise6NoIsAFaultAsASentence() {
        for (String signs : new String[] {"", "A", "a=A", "a=", "~", "q", "aA", TWELVE + "a", TWELVE + "~"}) {
            SaidAlready x = said(signs);
            due("write of " + signs, x.write(), NO);
            due("the signs stay", x.told(0), signs.length());
            due("no SENTENCE", x.told(2), 0);
        }
    }

    // ---- Promise 7

    @Says(at = "Promise 7", words = "Of a PAIR: how many signs its first (what = 0), its second SENTENCE has (1)")
    static void promise7SizesFromOneToTwelve() {
        for (int n = 1; n <= 12; n++) {
            SaidAlready x = kept(TWELVE.substring(0, n) + "=" + OTHER_TWELVE.substring(0, 13 - n));
            due("the first of " + n, x.pair(0, 0), n);
            due("the second of " + (13 - n), x.pair(0, 1), 13 - n);
        }
    }

    @Says(at = "Promise 7", words = "which it stood BEHIND (2; NONE)")
    static void promise7NoneIsBehindNone() {
        SaidAlready x = pairs(11);
        due("behind none", x.pair(0, 2), NONE);
        due("behind none", x.pair(10, 2), NONE);
        keep(x, "a=A", 0);
        due("behind the first", x.pair(11, 2), 0);
    }

    @Says(at = "Promise 7",
            words = "the sign at a place (what = 100 and the place of the first, 200 and that of the second)")
    static void promise7SignsFromPlaceZeroToEleven() {
        SaidAlready x = kept("a=A", TWELVE + "=" + OTHER_TWELVE);
        for (int place = 0; place < 12; place++) {
            due("pair(1, " + (100 + place) + ")", x.pair(1, 100 + place), TWELVE.charAt(place));
            due("pair(1, " + (200 + place) + ")", x.pair(1, 200 + place), OTHER_TWELVE.charAt(place));
        }
        due("the only sign of the first", x.pair(0, 100), 'a');
        due("the only sign of the second", x.pair(0, 200), 'A');
    }

    @Says(at = "Promise 7", words = "UNKNOWN")
    static void promise7UnknownIsAPairThatIsNot() {
        for (int n : new int[] {0, 1, 11, 12}) {
            for (int what : new int[] {0, 1, 2, 100, 200, 3}) {
                eachAnswers("pair of " + n, () -> pairs(n), allBut(0, n - 1), (x, p) -> x.pair(p, what), UNKNOWN);
            }
        }
    }

    @Says(at = "Promise 7", words = "OUTSIDE")
    static void promise7OutsideIsAnotherWhatOrAPlaceBehindTheLast() {
        for (int n : new int[] {1, 5, 12}) {
            Made made = () -> kept("a=A", TWELVE.substring(0, n) + "=" + OTHER_TWELVE.substring(0, 13 - n));
            List<Integer> wrong = allBut(0, 2);
            wrong.addAll(allBut(100, 111));
            wrong.addAll(allBut(200, 211));
            wrong.removeIf(what -> what >= 0 && what <= 2 || what >= 100 && what < 100 + n
                    || what >= 200 && what < 200 + 13 - n);
            eachAnswers("pair(1) of " + n + " and " + (13 - n), made, wrong, (x, what) -> x.pair(1, what), OUTSIDE);
        }
    }
}
