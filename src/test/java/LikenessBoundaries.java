/** The boundaries of part 2: how like sentences are (promises 8 to 11). */
final class LikenessBoundaries extends Given {
    private static final String TWELVE = "abcdefghijkl";

    private LikenessBoundaries() {
    }

    private static void farBothWays(String one, String other, int want) {
        due("far of " + one + " and " + other, far(one, other), want);
        due("far of " + other + " and " + one, far(other, one), want);
    }

    // ---- Terms 2: FAR

    @Says(at = "Terms 2",
            words = "FAR of two SENTENCES: the least cost of making one of the other, sign by sign in order:")
    static void terms2FarIsTheLeastCost() {
        farBothWays(TWELVE, "bcdefghijkla", 8);
        farBothWays("ab", "ba", 8);
        farBothWays("abc", "cba", 8);
        farBothWays("1234567", "2345671", 7);
        farBothWays("12345678", "23456781", 8);
        farBothWays("123456789012", "234567890123", 8);
        farBothWays("a1", "1a", 8);
        farBothWays("a1b2", "1b2a", 8);
        farBothWays("a12", "34a", 9);
        farBothWays("1a2b3c", "a2b3c", 4);
        farBothWays(TWELVE, "m", 48);
        farBothWays(TWELVE, "l", 44);
        farBothWays("aaaaaaaaaaaa", "bbbbbbbbbbbb", 48);
        farBothWays("111111111111", "222222222222", 12);
        farBothWays("aaaaaaaaaaaa", "111111111111", 48);
    }

    @Says(at = "Terms 2", words = "one put in or taken out 4")
    static void terms2OnePutInOrTakenOutIsFour() {
        for (int n = 1; n < 12; n++) {
            farBothWays(TWELVE.substring(0, n), TWELVE, 4 * (12 - n));
            farBothWays(TWELVE.substring(12 - n), TWELVE, 4 * (12 - n));
            farBothWays("a".repeat(n), "a".repeat(n + 1), 4);
            farBothWays("1".repeat(n), "1".repeat(n + 1), 4);
        }
        for (int place = 0; place <= 11; place++) {
            String without = TWELVE.substring(0, place) + TWELVE.substring(place + 1);
            farBothWays(without, TWELVE, 4);
            farBothWays(without, without.substring(0, place) + "7" + without.substring(place), 4);
        }
    }

    @Says(at = "Terms 2", words = "a WORD in the place of another one, or of a NUMBER, or that of a WORD, 4")
    static void terms2AWordInAnotherPlaceIsFour() {
        farBothWays("a", "b", 4);
        farBothWays("a", "p", 4);
        farBothWays("a", "0", 4);
        farBothWays("p", "9", 4);
        farBothWays("9", "a", 4);
        for (int place = 0; place < 12; place++) {
            String front = TWELVE.substring(0, place);
            String end = TWELVE.substring(place + 1);
            farBothWays(TWELVE, front + "p" + end, 4);
            farBothWays(TWELVE, front + "0" + end, 4);
        }
    }

    @Says(at = "Terms 2", words = "a NUMBER in the place of another one 1")
    static void terms2ANumberInThePlaceOfAnotherIsOne() {
        for (char one = '0'; one <= '9'; one++) {
            for (char other = '0'; other <= '9'; other++) {
                due("far of " + one + " and " + other, far("" + one, "" + other), one == other ? 0 : 1);
            }
        }
        for (int place = 0; place < 12; place++) {
            String front = TWELVE.substring(0, place);
            String end = TWELVE.substring(place + 1);
            farBothWays(front + "0" + end, front + "9" + end, 1);
        }
    }

    @Says(at = "Terms 2", words = "the same nothing")
    static void terms2TheSameIsNothing() {
        for (int n = 1; n <= 12; n++) {
            farBothWays(TWELVE.substring(0, n), TWELVE.substring(0, n), 0);
            farBothWays("1".repeat(n), "1".repeat(n), 0);
        }
    }

    // ---- Terms 2: LIKE, MATCH, FOUND

    @Says(at = "Terms 2", words = "LIKE: 100 less 25 times FAR by the signs of the longer one.")
    static void terms2LikeByTheSignsOfTheLongerOne() {
        for (int one = 1; one <= 12; one++) {
            for (int other = 1; other <= 12; other++) {
                int longer = Math.max(one, other);
                int far = 4 * Math.abs(one - other);
                due("like of " + one + " and " + other, like("a".repeat(one), "a".repeat(other)), 100 - 25 * far / longer);
                due("nothing alike", like("a".repeat(one), "b".repeat(other)), 0);
            }
        }
        due("25 by 1", like("1", "2"), 75);
        due("25 by 12", like("abcdefghijk1", "abcdefghijk2"), 98);
        due("5 by 2, 62 and a half", like("a1", "2"), 38);
        due("5 by 2, the other way round", like("2", "a1"), 38);
    }

    @Says(at = "Terms 2", words = "MATCH of a SENTENCE of THE TEXT with a PAIR: LIKE of it and the PAIR's first SENTENCE")
    static void terms2MatchIsByTheFirstSentence() {
        SaidAlready x = written(kept("1=2", "2=1"), "1", "2");
        due("the first is the same, the second is not", x.match(0, 0), 100);
        due("the second is the same, the first is not", x.match(0, 1), 75);
        due("the first is the same, the second is not", x.match(1, 1), 100);
        due("the second is the same, the first is not", x.match(1, 0), 75);
    }

    /** PAIR 0 a1, PAIR 1 b behind it; the SENTENCE ahead of b as told. */
    private static int matchBehind(String ahead) {
        SaidAlready x = kept("a1=A");
        keep(x, "b=B", 0);
        return written(x, ahead, "b").match(1, 1);
    }

    @Says(at = "Terms 2", words = {"101, if LIKE is 100, the PAIR stood BEHIND one, and the SENTENCE ahead in THE TEXT is "
            + "that one's first SENTENCE."})
    static void terms2101IfTheSameStandsAhead() {
        due("the same ahead", matchBehind("a1"), 101);
        due("another NUMBER ahead", matchBehind("a2"), 100);
        due("another WORD ahead", matchBehind("b1"), 100);
        due("a longer one ahead", matchBehind("a1a"), 100);
        due("a shorter one ahead", matchBehind("a"), 100);
    }

    @Says(at = "Terms 2", words = "101, if LIKE is 100")
    static void terms2NoOtherLikeIsRaised() {
        SaidAlready x = kept("a=A");
        keep(x, "bcdefghijkl1=B", 0);
        written(x, "a", "bcdefghijkl2", "a", "bcdefghijkl1", "a", "p");
        due("98 stays", x.match(1, 1), 98);
        due("100 is 101", x.match(3, 1), 101);
        due("0 stays", x.match(5, 1), 0);
    }

    @Says(at = "Terms 2", words = "the PAIR stood BEHIND one")
    static void terms2NotIfThePairStoodBehindNone() {
        SaidAlready x = kept("a=A", "b=B");
        written(x, "a", "b", "b");
        due("behind none", x.match(1, 1), 100);
        keep(x, "b=B", 0);
        due("behind one", x.match(1, 2), 101);
        keep(x, "b=B", 2);
        due("behind one that is the same as it", x.match(2, 3), 101);
        due("behind another one", x.match(1, 3), 100);
    }

    @Says(at = "Terms 2", words = "the SENTENCE ahead in THE TEXT is that one's first SENTENCE")
    static void terms2TheFirstSentenceOfTheTextHasNoneAhead() {
        SaidAlready x = kept("a=A");
        keep(x, "a=B", 0);
        keep(x, "b=B", 0);
        written(x, "a", "a", "c", "b", "a");
        due("SENTENCE 0 has none ahead", x.match(0, 1), 100);
        due("SENTENCE 1 has one", x.match(1, 1), 101);
        due("the one two ahead does not count", x.match(3, 2), 100);
        due("the one behind does not count", x.match(3, 2), 100);
        write(x, "b");
        due("the one ahead does", x.match(5, 2), 101);
        SaidAlready last = kept("a=A");
        keep(last, "b=B", 0);
        written(last, "a", "b", "a", "b", "a", "b", "a", "b", "a", "b");
        due("up to the 10th SENTENCE", last.match(9, 1), 101);
    }

    @Says(at = "Terms 2", words = "the SENTENCE ahead in THE TEXT is that one's first SENTENCE")
    static void terms2TheSameHoldsWhicheverCameFirst() {
        SaidAlready x = text("a", "b");
        keep(x, "a=A", -1);
        keep(x, "b=B", 0);
        due("the PAIRS came behind THE TEXT", x.match(1, 1), 101);
        SaidAlready y = text("a");
        keep(y, "a=A", -1);
        keep(y, "b=B", 0);
        write(y, "b");
        due("the SENTENCE came last", y.match(1, 1), 101);
        y.otherwise(0, 0, 5);
        due("second SENTENCES do not matter", y.match(1, 1), 101);
    }

    @Says(at = "Terms 2", words = "FOUND: the PAIR with the greatest MATCH, the last such.")
    static void terms2FoundIsTheLastOfTheGreatest() {
        SaidAlready x = text("a");
        for (int n = 0; n < 12; n++) {
            keep(x, "b=B", -1);
            due("of " + (n + 1) + " with 0 the last", x.found(0, 0), n);
        }
        SaidAlready y = text("ab");
        keep(y, "ab=A", -1);
        keep(y, "ac=A", -1);
        due("a lesser one behind it is not found", y.found(0, 0), 0);
        keep(y, "ab=B", -1);
        due("the last of the same", y.found(0, 0), 2);
        SaidAlready z = text("a", "b");
        keep(z, "a=A", -1);
        keep(z, "b=B", 0);
        keep(z, "b=C", -1);
        due("101 is greater than 100", z.found(1, 0), 1);
        keep(z, "b=D", 0);
        due("the last of 101", z.found(1, 0), 3);
    }

    // ---- Terms 2: FILLED

    @Says(at = "Terms 2",
            words = "FILLED: the other tongue's SENTENCE of FOUND, if it is like but for NUMBERS")
    static void terms2FilledIsOfFoundAlone() {
        SaidAlready x = written(kept("a22222=A", "b11111=B"), "a11111");
        due("FOUND is the one with the other WORD", x.found(0, 0), 1);
        due("which is not like so, though another one is", x.filled(0, -1), NO);
        SaidAlready y = written(kept("a222=A2", "b111=B"), "a111");
        due("FOUND is the one with the other NUMBERS", y.found(0, 0), 0);
        same("which is like so", filled(y, 0), "A1");
        SaidAlready z = written(kept("a1=A1", "a1=B1"), "a1");
        same("of two the last", filled(z, 0), "B1");
    }

    @Says(at = "Terms 2", words = "(both have as many signs")
    static void terms2FilledNeedsAsManySigns() {
        for (int n = 1; n <= 12; n++) {
            for (int m = 1; m <= 12; m++) {
                SaidAlready x = written(kept("1".repeat(n) + "=A"), "1".repeat(m));
                due("a PAIR of " + n + " and a SENTENCE of " + m, x.filled(0, -1), n == m ? 1 : NO);
            }
        }
    }

    @Says(at = "Terms 2", words = "at each place the same WORD, or NUMBERS both)")
    static void terms2FilledNeedsTheSameWordOrNumbersAtEachPlace() {
        for (int place = 0; place < 12; place++) {
            String front = TWELVE.substring(0, place);
            String end = TWELVE.substring(place + 1);
            SaidAlready x = written(kept(front + "1" + end + "=A"), front + "2" + end, front + "p" + end);
            due("NUMBERS both at " + place, x.filled(0, -1), 1);
            due("a WORD for a NUMBER at " + place, x.filled(1, -1), NO);
            SaidAlready y = written(kept(TWELVE + "=A"), TWELVE, front + "2" + end, front + "p" + end);
            due("the same WORD at " + place, y.filled(0, -1), 1);
            due("a NUMBER for a WORD at " + place, y.filled(1, -1), NO);
            due("another WORD at " + place, y.filled(2, -1), NO);
        }
    }

    @Says(at = "Terms 2", words = "a NUMBER that stands in the PAIR's first SENTENCE is changed everywhere in the "
            + "second one to what stands at its place")
    static void terms2ANumberIsChangedEverywhere() {
        same("everywhere", filled(written(kept("1=111111111111"), "2"), 0), "222222222222");
        same("what does not stand in the first stays", filled(written(kept("a1=023456789A"), "a2"), 0), "023456789A");
        same("all at once", filled(written(kept("0123=3210"), "1230"), 0), "0321");
        same("by its place, the last", filled(written(kept(TWELVE.substring(1) + "0=0"), TWELVE.substring(1) + "9"), 0), "9");
        same("0 and 9 are NUMBERS", filled(written(kept("09=90A"), "90"), 0), "09A");
        same("WORDS stay", filled(written(kept("a1=AP1"), "a0"), 0), "AP0");
        same("the same NUMBER stays", filled(written(kept("a1=A1"), "a1"), 0), "A1");
        SaidAlready x = written(kept("a1=A1"), "a2");
        filled(x, 0);
        same("the PAIR itself stays", second(x, 0), "A1");
    }

    @Says(at = "Terms 2", words = "(the first such place) in the SENTENCE")
    static void terms2TheFirstPlaceOfANumberCounts() {
        same("two places", filled(written(kept("1a1=1"), "2a3"), 0), "2");
        same("twelve places", filled(written(kept("111111111111=1"), "911111111111"), 0), "9");
        same("the first is the same", filled(written(kept("11=1"), "12"), 0), "1");
        same("each by its own first", filled(written(kept("1212=12"), "3456"), 0), "34");
    }

    @Says(at = "Terms 2", words = "NO: it is not like so.")
    static void terms2NoIsNotLikeSo() {
        SaidAlready x = written(kept("ab1=A1B"), "ab", "ab12", "ac1", "abc", "1b1", "p");
        for (int sentence = 0; sentence < 6; sentence++) {
            for (int i = -1; i <= 3; i++) {
                due("filled(" + sentence + ", " + i + ")", x.filled(sentence, i), NO);
            }
        }
    }

    // ---- Promise 8

    @Says(at = "Promise 8", words = "FAR of two SENTENCES of THE TEXT.")
    static void promise8FarOfTheFirstAndTheTenth() {
        SaidAlready x = text("a", "aa", "aaa", "aaaa", "aaaaa", "aaaaaa", "aaaaaaa", "aaaaaaaa", "aaaaaaaaa", "aaaaaaaaaa");
        for (int one = 0; one < 10; one++) {
            for (int other = 0; other < 10; other++) {
                due("far(" + one + ", " + other + ")", x.far(one, other), 4 * Math.abs(one - other));
            }
        }
    }

    @Says(at = "Promise 8", words = "UNKNOWN")
    static void promise8UnknownIsASentenceThatIsNot() {
        for (int n : new int[] {0, 1, 9, 10}) {
            eachAnswers("far of one, " + n, () -> sentences(n), allBut(0, n - 1), (x, s) -> x.far(s, 0), UNKNOWN);
            eachAnswers("far of the other, " + n, () -> sentences(n), allBut(0, n - 1), (x, s) -> x.far(0, s), UNKNOWN);
            eachAnswers("far of both, " + n, () -> sentences(n), allBut(0, n - 1), (x, s) -> x.far(s, s), UNKNOWN);
        }
    }

    private static SaidAlready sentences(int n) {
        SaidAlready x = new SaidAlready();
        for (int i = 0; i < n; i++) {
            write(x, "a");
        }
        return x;
    }

    private static SaidAlready withPairs(int sentences, int pairs) {
        SaidAlready x = sentences(sentences);
        for (int i = 0; i < pairs; i++) {
            keep(x, "a=A", -1);
        }
        return x;
    }

    // ---- Promise 9

    @Says(at = "Promise 9", words = "MATCH.")
    static void promise9MatchOfTheLastSentenceWithTheLastPair() {
        SaidAlready x = withPairs(9, 11);
        write(x, "b");
        keep(x, "b=B", 10);
        for (int sentence = 0; sentence < 10; sentence++) {
            for (int pair = 0; pair < 12; pair++) {
                int want = sentence == 9 && pair == 11 ? 101 : sentence == 9 || pair == 11 ? 0 : 100;
                due("match(" + sentence + ", " + pair + ")", x.match(sentence, pair), want);
            }
        }
    }

    @Says(at = "Promise 9", words = "UNKNOWN")
    static void promise9UnknownIsASentenceOrAPairThatIsNot() {
        int[][] sizes = {{0, 0}, {1, 0}, {0, 1}, {1, 1}, {10, 12}, {10, 11}, {9, 12}};
        for (int[] size : sizes) {
            Made made = () -> withPairs(size[0], size[1]);
            eachAnswers("match, SENTENCES", made, allBut(0, size[0] - 1), (x, n) -> x.match(n, 0), UNKNOWN);
            eachAnswers("match, PAIRS", made, allBut(0, size[1] - 1), (x, n) -> x.match(0, n), UNKNOWN);
        }
    }

    // ---- Promise 10

    @Says(at = "Promise 10", words = "FOUND: the PAIR (what = 0), MATCH (1)")
    static void promise10FoundOfTheFirstAndTheLast() {
        SaidAlready x = written(kept("a=A"), "b");
        due("PAIR 0 with a MATCH of 0", x.found(0, 0), 0);
        due("a MATCH of 0", x.found(0, 1), 0);
        SaidAlready y = withPairs(10, 12);
        due("PAIR 11", y.found(9, 0), 11);
        due("100", y.found(9, 1), 100);
        SaidAlready z = text("a", "b");
        keep(z, "a=A", -1);
        keep(z, "b=A", 0);
        due("PAIR 1", z.found(1, 0), 1);
        due("101", z.found(1, 1), 101);
    }

    @Says(at = "Promise 10", words = "NONE: there are no PAIRS.")
    static void promise10NoneIsWithoutPairs() {
        SaidAlready x = text("a");
        x.image(0);
        due("no PAIR", x.found(0, 0), NONE);
        due("no MATCH", x.found(0, 1), NONE);
        keep(x, "b=B", -1);
        due("a PAIR", x.found(0, 0), 0);
        x.restore(0);
        due("no PAIR any more", x.found(0, 0), NONE);
        due("no MATCH any more", x.found(0, 1), NONE);
    }

    @Says(at = "Promise 10", words = "UNKNOWN")
    static void promise10UnknownIsASentenceThatIsNot() {
        for (int n : new int[] {0, 1, 9, 10}) {
            for (int what : new int[] {0, 1, 2}) {
                eachAnswers("found", () -> withPairs(n, 1), allBut(0, n - 1), (x, s) -> x.found(s, what), UNKNOWN);
                eachAnswers("found", () -> sentences(n), allBut(0, n - 1), (x, s) -> x.found(s, what), UNKNOWN);
            }
        }
    }

    @Says(at = "Promise 10", words = "OUTSIDE")
    static void promise10OutsideIsAnotherWhat() {
        eachAnswers("found with PAIRS", () -> withPairs(2, 2), allBut(0, 1), (x, what) -> x.found(1, what), OUTSIDE);
        eachAnswers("found without", () -> sentences(2), allBut(0, 1), (x, what) -> x.found(1, what), OUTSIDE);
    }

    // ---- Promise 11

    @Says(at = "Promise 11", words = "FILLED: how many signs (i = -1), the i-th")
    static void promise11FilledOfOneAndOfTwelveSigns() {
        SaidAlready x = written(kept("a1=1"), "a2");
        due("one", x.filled(0, -1), 1);
        due("the only one", x.filled(0, 0), '2');
        SaidAlready y = written(kept("1=ABCDEFGHIJK1"), "2");
        due("twelve", y.filled(0, -1), 12);
        due("the first", y.filled(0, 0), 'A');
        due("the last", y.filled(0, 11), '2');
    }

    @Says(at = "Promise 11", words = "NONE")
    static void promise11NoneIsAPlaceThatIsNot() {
        Made one = () -> written(kept("a1=1"), "a2");
        eachAnswers("filled of one", one, allBut(-1, 0), (x, i) -> x.filled(0, i), NONE);
        Made twelve = () -> written(kept("1=ABCDEFGHIJK1"), "2");
        eachAnswers("filled of twelve", twelve, allBut(-1, 11), (x, i) -> x.filled(0, i), NONE);
    }

    @Says(at = "Promise 11", words = "UNKNOWN")
    static void promise11UnknownIsASentenceThatIsNot() {
        for (int n : new int[] {0, 1, 9, 10}) {
            for (int i : new int[] {-1, 0, 1}) {
                eachAnswers("filled", () -> withPairs(n, 1), allBut(0, n - 1), (x, s) -> x.filled(s, i), UNKNOWN);
                eachAnswers("filled", () -> sentences(n), allBut(0, n - 1), (x, s) -> x.filled(s, i), UNKNOWN);
            }
        }
    }

    @Says(at = "Promise 11", words = "NO: also there are no PAIRS.")
    static void promise11NoIsAlsoWithoutPairs() {
        SaidAlready x = text("a");
        x.image(0);
        for (int i : new int[] {LOW, -2, -1, 0, 1, HIGH}) {
            due("filled(0, " + i + ")", x.filled(0, i), NO);
        }
        keep(x, "a=A", -1);
        due("a PAIR", x.filled(0, 0), 'A');
        x.restore(0);
        due("no PAIR any more", x.filled(0, 0), NO);
    }
}
