/** The boundaries of part 4: words of both tongues (promises 16 to 21). */
final class WordBoundaries extends Given {
    private static final long LOST = -1000000000000000000L;

    private WordBoundaries() {
    }

    private static char one(int word) {
        return (char) ('a' + word);
    }

    private static char other(int word) {
        return (char) ('A' + word);
    }

    private static int wrong(String pair, int... musts) {
        SaidAlready x = kept(pair);
        for (int i = 0; i < musts.length; i += 2) {
            x.must(musts[i], musts[i + 1]);
        }
        return x.wrongs();
    }

    // ---- Terms 4: MUSTS, WRONG

    @Says(at = "Terms 4", words = "MUSTS: of a WORD of the one tongue that one of the other (none at first).")
    static void terms4NoMustAtFirst() {
        SaidAlready x = kept("a=B", "abcdefghijkl=P", "p=A");
        for (int word = 0; word < 16; word++) {
            due("MUST of " + word, x.told(20 + word), NONE);
        }
        due("nothing is WRONG", x.wrongs(), 0);
        for (int word = 0; word < 16; word++) {
            due("none at first", x.must(word, 15 - word), NONE);
        }
        for (int word = 0; word < 16; word++) {
            due("each WORD has its own", x.told(20 + word), 15 - word);
        }
    }

    @Says(at = "Terms 4", words = "A PAIR is WRONG, if of some WORD with a MUST it has another number in the first "
            + "SENTENCE than of that WORD in the second one")
    static void terms4WrongIsAnotherNumberOfTheWord() {
        for (int n = 0; n <= 11; n++) {
            for (int m = 0; m <= 11; m++) {
                String pair = "a".repeat(n) + "p=P" + "A".repeat(m);
                due(pair, wrong(pair, 0, 0), n == m ? 0 : 1);
            }
        }
        due("twelve of both", wrong("aaaaaaaaaaaa=AAAAAAAAAAAA", 0, 0), 0);
        due("twelve and eleven", wrong("aaaaaaaaaaaa=AAAAAAAAAAA", 0, 0), 1);
        due("eleven and twelve", wrong("aaaaaaaaaaa=AAAAAAAAAAAA", 0, 0), 1);
        due("neither is there", wrong("b=B", 0, 0), 0);
        due("in the second alone", wrong("b=A", 0, 0), 1);
        due("in the first alone", wrong("a=B", 0, 0), 1);
        due("in any order, NUMBERS between", wrong("a1a=1AA", 0, 0), 0);
        due("WORDS without a MUST do not count", wrong("ab=AP", 0, 0), 0);
        due("some WORD, not all", wrong("ab=AC", 0, 0, 1, 1), 1);
        due("the last WORD", wrong("p=A", 15, 15), 1);
        due("the last WORD", wrong("p=P", 15, 15), 0);
        due("a MUST that is gone", wrong("a=B", 0, 0, 0, -1), 0);
        due("a MUST that is another one now", wrong("a=B", 0, 0, 0, 1), 0);
    }

    @Says(at = "Terms 4", words = "a WORD of the other tongue that several WORDS MUST: their numbers together.")
    static void terms4SeveralWordsMustOneTogether() {
        due("one of each is two", wrong("ab=AA", 0, 0, 1, 0), 0);
        due("one of each is not one", wrong("ab=A", 0, 0, 1, 0), 1);
        due("one alone", wrong("b=A", 0, 0, 1, 0), 0);
        due("neither", wrong("c=C", 0, 0, 1, 0), 0);
        due("neither, but the other tongue's", wrong("c=A", 0, 0, 1, 0), 1);
        SaidAlready x = kept("abcdefghijkl=PPPPPPPPPPPP", "abcdefghijkl=PPPPPPPPPPP", "ponm=PPPP", "p=AP", "1=1");
        for (int word = 0; word < 16; word++) {
            x.must(word, 15);
        }
        due("all WORDS MUST the last one", x.wrongs(), 2);
    }

    @Says(at = "Terms 4", words = "WRONGS as bits.")
    static void terms4WrongsHaveABitForEachPair() {
        for (int pair = 0; pair < 12; pair++) {
            SaidAlready x = new SaidAlready();
            for (int n = 0; n < 12; n++) {
                keep(x, n == pair ? "a=B" : "a=A", -1);
            }
            x.must(0, 0);
            due("PAIR " + pair + " alone", x.wrongs(), 1 << pair);
            x.must(0, 1);
            due("all but PAIR " + pair, x.wrongs(), 0xfff ^ 1 << pair);
        }
    }

    // ---- Terms 4: GOES, LEARNT

    @Says(at = "Terms 4", words = "GOES of two WORDS: twice the PAIRS that have both, by the PAIRS that have the one and "
            + "those that have the other one, together.")
    static void terms4GoesCountsPairsNotWords() {
        SaidAlready x = kept("aaa=AAA", "a=1", "b=A");
        due("2 by 4, upper", x.goes(0, 0, 0), 1);
        due("2 by 4, lower", x.goes(0, 0, 1), 2);
        SaidAlready y = new SaidAlready();
        for (int n = 0; n < 12; n++) {
            keep(y, n == 0 ? "a=A" : n < 6 ? "a=B" : "b=A", -1);
        }
        due("2 by 13, upper", y.goes(0, 0, 0), 2);
        due("2 by 13, lower", y.goes(0, 0, 1), 13);
        SaidAlready z = new SaidAlready();
        for (int n = 0; n < 12; n++) {
            keep(z, "a=A", -1);
        }
        due("24 by 24, upper", z.goes(0, 0, 0), 1);
        due("24 by 24, lower", z.goes(0, 0, 1), 1);
        SaidAlready tongues = kept("a=B", "b=A");
        due("the first WORD is of the one tongue", tongues.goes(0, 1, 0), 1);
        due("the other one of the other", tongues.goes(0, 0, 0), 0);
    }

    @Says(at = "Terms 4", words = "LEARNT of a WORD: that of the other tongue with the most GOES")
    static void terms4LearntIsTheMost() {
        SaidAlready x = kept("a=AB", "b=A");
        due("2 by 2 is more than 2 by 3", x.learnt(0), 1);
        SaidAlready y = kept("a=AP", "c=A");
        due("the last WORD is the most", y.learnt(0), 15);
        SaidAlready z = kept("a=AB", "a=AB", "a=B", "b=B", "b=B", "b=A");
        due("4 by 6 is as 6 by 8 is not", z.learnt(0), 1);
    }

    @Says(at = "Terms 4", words = "the first such")
    static void terms4LearntIsTheFirstOfTheSame() {
        due("two", kept("a=BA").learnt(0), 0);
        due("twelve", kept("a=PONMLKJIHGFE").learnt(0), 4);
        // 2 by 3 of A and 4 by 6 of B: the same in lowest terms.
        SaidAlready x = kept("a=BA", "a=B", "b=B", "b=B");
        due("2 by 3 and 4 by 6, upper", x.goes(0, 0, 0) * 3, x.goes(0, 0, 1) * 2);
        due("2 by 3 and 4 by 6, upper", x.goes(0, 1, 0) * 3, x.goes(0, 1, 1) * 2);
        due("the first of both", x.learnt(0), 0);
    }

    @Says(at = "Terms 4", words = "(NONE: all are 0)")
    static void terms4LearntIsNoneIfAllAreZero() {
        due("no PAIRS", new SaidAlready().learnt(0), NONE);
        SaidAlready x = kept("a=1", "1=A", "b=B");
        due("with NUMBERS alone", x.learnt(0), NONE);
        due("in no PAIR", x.learnt(15), NONE);
        due("one that is not 0", x.learnt(1), 1);
    }

    // ---- Terms 4: SAID OTHERWISE, CLASH

    @Says(at = "Terms 4", words = "SAID OTHERWISE: a WORD of the other tongue becomes another one everywhere in the "
            + "second SENTENCES of PAIRS in which a WORD of the one tongue stands")
    static void terms4OtherwiseIsEverywhereInThosePairs() {
        SaidAlready x = kept("a=AAAAAAAAAAAA", "bca=1A2A", "b=AAA", "a=B", "abcdefghijkl=A");
        due("12, 2, none, none, 1", x.otherwise(0, 0, 15), 15);
        same("everywhere", second(x, 0), "PPPPPPPPPPPP");
        same("NUMBERS stay", second(x, 1), "1P2P");
        same("not where the WORD of the one tongue does not stand", second(x, 2), "AAA");
        same("other WORDS stay", second(x, 3), "B");
        same("one of twelve", second(x, 4), "P");
        same("the first stays", first(x, 0), "a");
        SaidAlready last = new SaidAlready();
        for (int n = 0; n < 12; n++) {
            keep(last, n == 11 ? "p=P" : "o=P", -1);
        }
        due("the 12th PAIR alone", last.otherwise(15, 15, 0), 1);
        same("the 12th PAIR alone", second(last, 11) + second(last, 10), "AP");
    }

    @Says(at = "Terms 4", words = "how many signs changed.")
    static void terms4OtherwiseCountsSigns() {
        due("no PAIRS", new SaidAlready().otherwise(0, 0, 1), 0);
        due("the WORD stands in none", kept("b=A").otherwise(0, 0, 1), 0);
        due("the other WORD stands in none", kept("a=B1").otherwise(0, 0, 1), 0);
        SaidAlready x = new SaidAlready();
        for (int n = 0; n < 12; n++) {
            keep(x, "a=AAAAAAAAAAAA", -1);
        }
        due("all there are", x.otherwise(0, 0, 1), 144);
        due("none again", x.otherwise(0, 0, 1), 0);
        due("all back", x.otherwise(0, 1, 0), 144);
        due("a WORD that becomes itself changes no sign", x.otherwise(0, 0, 0), 0);
        same("it stays", second(x, 11), "AAAAAAAAAAAA");
    }

    @Says(at = "Terms 4", words = "CLASH: the first two PAIRS (by the lesser number, then the other one) with the same "
            + "first, but unlike second SENTENCES.")
    static void terms4ClashIsTheFirstTwo() {
        due("no PAIRS", new SaidAlready().clash(), NONE);
        due("one PAIR", kept("a=A").clash(), NONE);
        due("the same twice", kept("a=A", "a=A").clash(), NONE);
        due("other firsts", kept("a=A", "b=B").clash(), NONE);
        due("other firsts, the same second", kept("a=A", "b=A").clash(), NONE);
        due("0 and 1", kept("a=A", "a=B").clash(), 1);
        due("a longer second", kept("a=A", "a=AA").clash(), 1);
        due("another NUMBER in the second", kept("a=A1", "a=A2").clash(), 1);
        due("another NUMBER in the first", kept("a1=A", "a2=B").clash(), NONE);
        due("a longer first", kept("a=A", "aa=B").clash(), NONE);
        due("by the lesser number", kept("a=A", "b=A", "b=B", "a=B").clash(), 3);
        due("then by the other one", kept("a=A", "a=A", "a=B", "a=C").clash(), 2);
    }

    // ---- Promise 16

    @Says(at = "Promise 16", words = "A MUST of a WORD (-1: none): which it was (NONE).")
    static void promise16MinusOneIsNone() {
        for (int word = 0; word < 16; word++) {
            SaidAlready x = new SaidAlready();
            due("none is taken away", x.must(word, -1), NONE);
            for (int as = 0; as < 16; as++) {
                due("which it was", x.must(word, as), as == 0 ? NONE : as - 1);
            }
            due("it is taken away", x.must(word, -1), 15);
            due("none is left", x.must(word, -1), NONE);
            due("none is told", x.told(20 + word), NONE);
        }
    }

    @Says(at = "Promise 16", words = "UNKNOWN: the WORD")
    static void promise16UnknownIsNoWord() {
        for (int as : new int[] {-2, -1, 0, 15, 16}) {
            eachAnswers("must", SaidAlready::new, allBut(0, 15), (x, word) -> x.must(word, as), UNKNOWN);
        }
    }

    @Says(at = "Promise 16", words = "OUTSIDE")
    static void promise16OutsideIsNoWordOfTheOther() {
        for (int word : new int[] {0, 15}) {
            eachAnswers("must(" + word + ")", SaidAlready::new, allBut(-1, 15), (x, as) -> x.must(word, as), OUTSIDE);
        }
    }

    // ---- Promise 17

    @Says(at = "Promise 17", words = "WRONGS, as bits.")
    static void promise17WrongsOfNoneAndOfAll() {
        due("no PAIRS, no MUSTS", new SaidAlready().wrongs(), 0);
        SaidAlready x = new SaidAlready();
        x.must(0, 0);
        due("no PAIRS", x.wrongs(), 0);
        for (int n = 0; n < 12; n++) {
            keep(x, "a=B", -1);
            due("all " + (n + 1), x.wrongs(), (2 << n) - 1);
        }
        x.otherwise(0, 1, 0);
        due("said otherwise, none", x.wrongs(), 0);
    }

    // ---- Promise 18

    @Says(at = "Promise 18", words = "GOES.")
    static void promise18GoesOfTheFirstAndTheLastWord() {
        SaidAlready x = kept("a=P", "p=A");
        for (int part = 0; part < 2; part++) {
            due("a and P", x.goes(0, 15, part), 1);
            due("p and A", x.goes(15, 0, part), 1);
            due("a and A", x.goes(0, 0, part), part);
            due("p and P", x.goes(15, 15, part), part);
        }
    }

    @Says(at = "Promise 18", words = {"UNKNOWN", "(LOST less 1"})
    static void promise18UnknownIsNoWord() {
        for (int part : new int[] {0, 1, 2}) {
            eachAnswers("goes", () -> kept("a=A"), allBut(0, 15), (x, n) -> x.goes(n, 0, part), LOST - 1);
            eachAnswers("goes", () -> kept("a=A"), allBut(0, 15), (x, n) -> x.goes(0, n, part), LOST - 1);
        }
    }

    @Says(at = "Promise 18", words = {"OUTSIDE", "2)."})
    static void promise18OutsideIsNoPart() {
        eachAnswers("goes, 1 by 1", () -> kept("a=A"), allBut(0, 1), (x, part) -> x.goes(0, 0, part), LOST - 2);
        eachAnswers("goes, nothing", SaidAlready::new, allBut(0, 1), (x, part) -> x.goes(0, 0, part), LOST - 2);
    }

    // ---- Promise 19

    @Says(at = "Promise 19", words = {"LEARNT", "NONE"})
    static void promise19LearntOfEachWord() {
        SaidAlready x = kept("aceg=ACEG", "bdfh=BDFH", "ikmo=IKMO", "jl=JL");
        int[] learnt = {0, 1, 0, 1, 0, 1, 0, 1, 8, 9, 8, 9, 8, NONE, 8, NONE};
        for (int word = 0; word < 16; word++) {
            due("learnt(" + word + ")", x.learnt(word), learnt[word]);
        }
    }

    @Says(at = "Promise 19", words = "UNKNOWN")
    static void promise19UnknownIsNoWord() {
        eachAnswers("learnt", () -> kept("a=A"), allBut(0, 15), (x, n) -> x.learnt(n), UNKNOWN);
    }

    // ---- Promise 20

    @Says(at = "Promise 20", words = "SAID OTHERWISE: how many signs changed.")
    static void promise20OtherwiseOfTheFirstAndTheLastWord() {
        for (int word = 0; word < 16; word++) {
            int next = (word + 1) % 16;
            SaidAlready x = kept(one(word) + "=" + other(word) + other(next));
            due("one changed", x.otherwise(word, word, next), 1);
            same("both are the same now", second(x, 0), "" + other(next) + other(next));
            due("both changed", x.otherwise(word, next, word), 2);
            due("another WORD of the one tongue", x.otherwise(next, word, next), 0);
        }
    }

    @Says(at = "Promise 20", words = "UNKNOWN: a WORD.")
    static void promise20UnknownIsNoWord() {
        Made made = () -> kept("a=AB");
        eachAnswers("otherwise of no WORD", made, allBut(0, 15), (x, n) -> x.otherwise(n, 0, 1), UNKNOWN);
        eachAnswers("otherwise from no WORD", made, allBut(0, 15), (x, n) -> x.otherwise(0, n, 1), UNKNOWN);
        eachAnswers("otherwise to no WORD", made, allBut(0, 15), (x, n) -> x.otherwise(0, 0, n), UNKNOWN);
        eachAnswers("otherwise of none at all", made, allBut(0, 15), (x, n) -> x.otherwise(n, n, n), UNKNOWN);
    }

    // ---- Promise 21

    @Says(at = "Promise 21", words = "CLASH: 100 times the first, and the other")
    static void promise21ClashOfAnyTwo() {
        for (int one = 0; one < 12; one++) {
            for (int other = one + 1; other < 12; other++) {
                SaidAlready x = new SaidAlready();
                for (int n = 0; n < 12; n++) {
                    keep(x, n == one ? "p=A" : n == other ? "p=B" : one(n) + "=A", -1);
                }
                due("clash of " + one + " and " + other, x.clash(), 100 * one + other);
            }
        }
    }

    @Says(at = "Promise 21", words = "NONE")
    static void promise21NoneIsNoClash() {
        SaidAlready x = new SaidAlready();
        for (int n = 0; n < 12; n++) {
            due("none", x.clash(), NONE);
            keep(x, n % 2 == 0 ? "a=A" : one(n) + "=B", -1);
        }
        due("none of twelve", x.clash(), NONE);
        SaidAlready y = kept("a=A", "a=B");
        y.otherwise(0, 1, 0);
        due("none any more", y.clash(), NONE);
    }
}
