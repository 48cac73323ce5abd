/** The boundaries of part 3: what a text costs (promises 12 to 15). */
final class PriceBoundaries extends Given {
    private static final String TWELVE = "abcdefghijkl";

    private PriceBoundaries() {
    }

    /** Two SENTENCES of so many signs, of which some are other WORDS and some other NUMBERS. */
    private interface Held {
        void at(String one, String other, int like);
    }

    /** Each LIKE that SENTENCES of the same size can have. */
    private static void eachLike(Held held) {
        for (int size = 1; size <= 12; size++) {
            for (int words = 0; words <= size; words++) {
                for (int numbers = 0; words + numbers <= size; numbers++) {
                    String same = "c".repeat(size - words - numbers);
                    held.at(same + "a".repeat(words) + "1".repeat(numbers),
                            same + "b".repeat(words) + "2".repeat(numbers),
                            100 - 25 * (4 * words + numbers) / size);
                }
            }
        }
    }

    private static SaidAlready heldAgainst(String sentence, String first) {
        return rated(written(kept(first + "=A"), sentence), 50, 51, 52, 53, 54);
    }

    private static void bandDue(int least, int greatest, int band) {
        eachLike((one, other, like) -> {
            if (like >= least && like <= greatest) {
                due(one + " held against " + other, heldAgainst(one, other).match(0, 0), like);
                due("BAND of " + like, heldAgainst(one, other).price(0), one.length() * (50 + band));
            }
        });
    }

    /** Ten SENTENCES of twelve signs that have no sign in common. */
    private static SaidAlready tenOfTwelve() {
        SaidAlready x = new SaidAlready();
        for (int n = 0; n < 10; n++) {
            write(x, ("" + (char) ('a' + n)).repeat(12));
        }
        return x;
    }

    // ---- Terms 3: BANDS

    @Says(at = "Terms 3", words = {"BANDS of a LIKE or MATCH:", "0: 101"})
    static void terms3Band0Is101() {
        SaidAlready x = kept("a=A");
        keep(x, "b=B", 0);
        rated(written(x, "a", "b"), 50, 51, 52, 53, 54);
        due("101", x.found(1, 1), 101);
        due("BAND 0", x.price(1), 50);
        due("BAND 1 of the one ahead", x.price(0), 51);
    }

    @Says(at = "Terms 3", words = "1: 100")
    static void terms3Band1Is100() {
        bandDue(100, 100, 1);
    }

    @Says(at = "Terms 3", words = "2: 85 to 99")
    static void terms3Band2Is85To99() {
        bandDue(85, 99, 2);
        due("85 is to be had", heldAgainst("cc111", "cc222").match(0, 0), 85);
        due("85 is of BAND 2", heldAgainst("cc111", "cc222").price(0), 5 * 52);
        due("98 is of BAND 2", heldAgainst("ccccccccccc1", "ccccccccccc2").price(0), 12 * 52);
    }

    @Says(at = "Terms 3", words = "3: 60 to 84")
    static void terms3Band3Is60To84() {
        bandDue(60, 84, 3);
        due("84 is to be had", heldAgainst("c11", "c22").match(0, 0), 84);
        due("84 is of BAND 3", heldAgainst("c11", "c22").price(0), 3 * 53);
        due("60 is to be had", heldAgainst("cccaa", "cccbb").match(0, 0), 60);
        due("60 is of BAND 3", heldAgainst("cccaa", "cccbb").price(0), 5 * 53);
    }

    @Says(at = "Terms 3", words = "4: less")
    static void terms3Band4IsLess() {
        bandDue(0, 59, 4);
        due("59 is to be had", heldAgainst("ca1", "cb2").match(0, 0), 59);
        due("59 is of BAND 4", heldAgainst("ca1", "cb2").price(0), 3 * 54);
        due("0 is of BAND 4", heldAgainst("a", "b").price(0), 54);
    }

    @Says(at = "Terms 3", words = "BANDS of a LIKE or MATCH:")
    static void terms3BandsOfALikeAreThoseOfAMatch() {
        eachLike((one, other, like) -> {
            SaidAlready x = rated(text(one, other), 0, 1, 2, 3, 90);
            int band = like == 100 ? 1 : like >= 85 ? 2 : like >= 60 ? 3 : 90;
            due("LIKE of " + one + " and " + other, x.order(-1), one.length() * (90 + band));
        });
    }

    // ---- Terms 3: RATES, PRICE

    @Says(at = "Terms 3", words = "RATES of them for each sign (0 to 99; 1, 2, 5, 9, 10 at first).")
    static void terms3RatesAreZeroTo99() {
        int[] first = {1, 2, 5, 9, 10};
        for (int band = 0; band < 5; band++) {
            SaidAlready x = new SaidAlready();
            due("at first", x.told(10 + band), first[band]);
            for (int v = 0; v <= 99; v++) {
                due("which it was", x.rate(band, v), v == 0 ? first[band] : v - 1);
            }
            due("-1", x.rate(band, -1), OUTSIDE);
            due("100", x.rate(band, 100), OUTSIDE);
            due("the last one stays", x.told(10 + band), 99);
        }
    }

    @Says(at = "Terms 3",
            words = "A SENTENCE's PRICE by what it is held against: its signs times the RATE of that BAND.")
    static void terms3APriceIsSignsTimesRate() {
        for (int size = 1; size <= 12; size++) {
            String sentence = TWELVE.substring(0, size);
            for (int rate : new int[] {0, 1, 98, 99}) {
                due("BAND 1", rated(written(kept(sentence + "=A"), sentence), 7, rate, 7, 7, 7).price(0), size * rate);
                due("BAND 4", rated(text(sentence), 7, 7, 7, 7, rate).price(0), size * rate);
            }
        }
        due("the SENTENCE's signs, not the PAIR's", written(kept(TWELVE + "=A"), TWELVE.substring(1)).price(0), 11 * 5);
        due("the SENTENCE's signs, not the PAIR's", written(kept(TWELVE.substring(1) + "=A"), TWELVE).price(0), 12 * 5);
    }

    @Says(at = "Terms 3", words = "PRICE of THE TEXT: of each SENTENCE by FOUND alone")
    static void terms3ThePriceOfTheTextIsByFoundAlone() {
        SaidAlready x = rated(written(kept("aaaaa=A", "aaaab=B"), "aaaaa", "aaaaa"), 0, 99, 0, 0, 0);
        due("dearer by FOUND than by another PAIR", x.price(0), 5 * 99);
        due("SENTENCES of THE TEXT do not help", x.price(-1), 2 * 5 * 99);
    }

    @Says(at = "Terms 3", words = "(BAND 4 without PAIRS)")
    static void terms3Band4WithoutPairs() {
        SaidAlready x = rated(text("a", "a"), 1, 2, 3, 4, 77);
        due("one", x.price(0), 77);
        due("both", x.price(-1), 2 * 77);
    }

    @Says(at = "Terms 3", words = ", together.")
    static void terms3TheTextTogether() {
        due("no SENTENCES", new SaidAlready().price(-1), 0);
        due("no SENTENCES but PAIRS", kept("a=A").price(-1), 0);
        due("the dearest there is", rated(tenOfTwelve(), 99, 99, 99, 99, 99).price(-1), 10 * 12 * 99);
        due("the cheapest there is", rated(tenOfTwelve(), 0, 0, 0, 0, 0).price(-1), 0);
        SaidAlready x = kept("a=A");
        keep(x, "b=B", 0);
        written(x, "a", "b", "ccc111", "ccc12", "p");
        keep(x, "ccc222=C", -1);
        due("one of each BAND", x.price(-1), 2 + 1 + 6 * 5 + 5 * 9 + 10);
    }

    // ---- Terms 3: ORDER

    @Says(at = "Terms 3", words = "ORDER: SENTENCES are done in some order; each costs the least PRICE by the BAND of any "
            + "MATCH of it")
    static void terms3OrderByAnyMatch() {
        SaidAlready x = rated(written(kept("aaaaa=A", "aaaab=B", "p=C"), "aaaaa"), 60, 50, 40, 30, 90);
        due("a lesser MATCH is cheaper", x.order(-1), 5 * 30);
        x.rate(3, 95);
        due("then the greatest", x.order(-1), 5 * 50);
        SaidAlready y = text("a", "b");
        keep(y, "a=A", -1);
        keep(y, "b=B", 0);
        rated(y, 0, 50, 50, 50, 90);
        due("101 counts as it stands in THE TEXT", y.order(-1), 50);
        y.rate(0, 99);
        y.rate(1, 3);
        due("101 is not 100", y.order(-1), 3 + 90);
    }

    @Says(at = "Terms 3", words = "of LIKE of it and any SENTENCE that is done already")
    static void terms3OrderByThoseThatAreDone() {
        SaidAlready x = text("aaaaaaaaaaaa", "aaaaaaaaaa");
        due("the longer one is done last", x.order(-1), 10 * 10 + 12 * 9);
        same("the longer one is done last", order(x), "10");
        SaidAlready y = rated(text("a", "a"), 0, 50, 60, 60, 90);
        due("the first has none done ahead; of the second LIKE is 100, never 101", y.order(-1), 90 + 50);
        SaidAlready z = rated(text("aaaaa", "aaaaa", "aaaab"), 0, 50, 40, 10, 90);
        due("any, not the best", z.order(-1), 5 * (90 + 10 + 10));
        same("the one between comes first or second", order(z), "021");
        due("one alone has none done", text("a").order(-1), 10);
    }

    @Says(at = "Terms 3", words = "or by BAND 4.")
    static void terms3OrderByBand4() {
        SaidAlready x = rated(written(kept("a=A"), "a", "a"), 50, 50, 50, 50, 3);
        due("BAND 4 is cheapest", x.order(-1), 3 + 3);
        due("though FOUND is not of it", x.price(-1), 100);
        same("no order helps", order(x), "01");
    }

    @Says(at = "Terms 3", words = "LEAST: the least PRICE together of all orders")
    static void terms3LeastOfAllOrders() {
        due("no SENTENCES", new SaidAlready().order(-1), 0);
        due("the dearest there is", rated(tenOfTwelve(), 99, 99, 99, 99, 99).order(-1), 10 * 12 * 99);
        due("the cheapest there is", rated(tenOfTwelve(), 0, 0, 0, 0, 0).order(-1), 0);
        SaidAlready chain = text("aaaaaaaaaaaa", "aaaaaaaaaaa", "aaaaaaaaaa", "aaaaaaaaa", "aaaaaaaa",
                "aaaaaaa", "aaaaaa", "aaaaa", "aaaa", "aaa");
        due("ten, each helped by the next", chain.order(-1), 30 + 9 * (4 + 5 + 6) + 5 * (7 + 8 + 9 + 10 + 11 + 12));
        SaidAlready between = rated(text("aaaaaaaaaaab", "baaaaaaaaaaa", "aaaaaaaaaaaa"), 0, 0, 0, 90, 99);
        due("the one between helps both others", between.order(-1), 12 * 99);
        same("the one between helps both others", order(between), "021");
    }

    @Says(at = "Terms 3", words = "the first order by numbers with it.")
    static void terms3TheFirstOrderByNumbers() {
        same("none", order(new SaidAlready()), "");
        same("one", order(text("a")), "0");
        same("ten that do not help", order(tenOfTwelve()), "0123456789");
        same("ten that are the same", order(text("a", "a", "a", "a", "a", "a", "a", "a", "a", "a")), "0123456789");
        same("the 1 of need first, the rest by numbers", order(text("aaaaaaaaaaaa", "aaaaaaaaaa", "p")), "102");
        same("the one of need as late as may be", order(text("p", "aaaaaaaaaaaa", "o", "aaaaaaaaaa")), "0231");
        same("the last one first", order(text("aaaaaaaaaaaa", "p", "aaaaaaaaaa")), "120");
    }

    // ---- Terms 3: KEPT

    @Says(at = "Terms 3", words = "KEPT: the fewest PAIRS by which each SENTENCE still has the BAND that FOUND has")
    static void terms3KeptIsTheFewestPairs() {
        SaidAlready x = written(kept("aaaaaab=A", "baaaaaa=A", "aaaaaaa=A"), "caaaaab", "baaaaac");
        due("each by its own: the one between is of a lesser BAND", x.kept(), 3);
        SaidAlready y = written(kept("aaaaaac=A", "caaaaaa=A", "aaaaaaa=A"), "aaaaaab", "baaaaaa");
        due("one for both", y.kept(), 4);
        due("nothing is left out by asking", y.told(1), 3);
        SaidAlready edge = written(kept("cc111=A", "cc222=B", "ccccc=C"), "cc333");
        due("85 keeps the BAND of 85", edge.kept(), 1);
        SaidAlready far = written(kept("cccb1=A", "cccc1=B"), "cccc2");
        due("a PAIR of a lesser BAND does not", far.kept(), 2);
        SaidAlready exact = written(kept("ccccccccccc1=A", "ccccccccccc2=A"), "ccccccccccc2");
        due("98 does not keep 100", exact.kept(), 2);
        SaidAlready lesser = written(kept("cccccccccccc=A", "ccccccccccc1=B"), "ccccccccccc2");
        due("92 keeps the BAND of 98", lesser.kept(), 1);
    }

    @Says(at = "Terms 3", words = "KEPT: the fewest PAIRS")
    static void terms3KeptOfTenSentencesAndTwelvePairs() {
        SaidAlready low = new SaidAlready();
        SaidAlready high = new SaidAlready();
        keep(high, "o=O", -1);
        keep(high, "p=P", -1);
        for (int n = 0; n < 10; n++) {
            keep(low, (char) ('a' + n) + "=A", -1);
            keep(high, (char) ('a' + n) + "=A", -1);
            write(low, "" + (char) ('a' + n));
            write(high, "" + (char) ('a' + n));
        }
        keep(low, "o=O", -1);
        keep(low, "p=P", -1);
        due("each SENTENCE by a PAIR of its own, the lowest ten", low.kept(), 0x3ff);
        due("each SENTENCE by a PAIR of its own, the highest ten", high.kept(), 0xffc);
    }

    @Says(at = "Terms 3", words = "(BAND 4 needs none")
    static void terms3KeptNeedsNoneForBand4() {
        due("no PAIRS, no SENTENCES", new SaidAlready().kept(), 0);
        due("no SENTENCES", kept("a=A").kept(), 0);
        due("no PAIRS", text("a").kept(), 0);
        due("0", written(kept("a=A"), "b").kept(), 0);
        due("59", written(kept("ca1=A"), "cb2").kept(), 0);
        due("60", written(kept("cccaa=A"), "cccbb").kept(), 1);
    }

    @Says(at = "Terms 3", words = "of PAIRS left out nothing else changes)")
    static void terms3KeptThoughTheOneBehindIsLeftOut() {
        SaidAlready x = text("c", "b");
        keep(x, "c=A", -1);
        keep(x, "c=B", -1);
        keep(x, "b=B", 1);
        due("101 stays without the PAIR that it stood behind", x.kept(), 1 + 4);
        SaidAlready y = text("c", "b");
        keep(y, "c=A", -1);
        keep(y, "b=B", -1);
        keep(y, "b=C", 0);
        due("100 does not keep 101", y.kept(), 1 + 4);
        due("the PAIR is still there", y.pair(2, 2), 0);
    }

    @Says(at = "Terms 3", words = "of several sets the least as bits.")
    static void terms3KeptIsTheLeastAsBits() {
        SaidAlready x = text("a", "b");
        for (int n = 0; n < 6; n++) {
            keep(x, "a=A", -1);
            keep(x, "b=B", -1);
        }
        due("of 36 sets the first two", x.kept(), 3);
        SaidAlready y = text("aaaaaaa");
        for (int n = 0; n < 12; n++) {
            keep(y, "aaaaaab=A", -1);
        }
        due("of twelve the first", y.kept(), 1);
        SaidAlready z = written(kept("o=O", "aaaaaac=A", "aaaaaaa=B", "aaaaaac=C"), "aaaaaab");
        due("of three the least", z.kept(), 2);
        SaidAlready v = written(kept("aaaaabb=A", "aaaaaaa=A", "bbbbbbb=A"), "aaaaaab", "bbbbbba");
        due("5 is less than 6", v.kept(), 5);
    }

    // ---- Promise 12

    @Says(at = "Promise 12", words = "A RATE of a BAND (0 to 4): which it was.")
    static void promise12RateOfBands0To4() {
        SaidAlready x = new SaidAlready();
        int[] first = {1, 2, 5, 9, 10};
        for (int band = 0; band < 5; band++) {
            due("which it was", x.rate(band, 99), first[band]);
            due("which it was", x.rate(band, 0), 99);
            due("which it was", x.rate(band, 0), 0);
            for (int other = band + 1; other < 5; other++) {
                due("others stay", x.told(10 + other), first[other]);
            }
        }
    }

    @Says(at = "Promise 12", words = "OUTSIDE")
    static void promise12OutsideIsAnotherBandOrRate() {
        for (int v : new int[] {-1, 0, 99, 100}) {
            eachAnswers("rate of a BAND", SaidAlready::new, allBut(0, 4), (x, band) -> x.rate(band, v), OUTSIDE);
        }
        for (int band = 0; band < 5; band++) {
            int b = band;
            eachAnswers("rate(" + b + ")", SaidAlready::new, allBut(0, 99), (x, v) -> x.rate(b, v), OUTSIDE);
        }
    }

    // ---- Promise 13

    @Says(at = "Promise 13", words = "PRICE of a SENTENCE; of THE TEXT (-1).")
    static void promise13MinusOneIsTheText() {
        due("THE TEXT without SENTENCES", new SaidAlready().price(-1), 0);
        SaidAlready x = text("a", "aa", "aaa", "aaaa", "aaaaa", "aaaaaa", "aaaaaaa", "aaaaaaaa", "aaaaaaaaa", "aaaaaaaaaa");
        for (int n = 0; n < 10; n++) {
            due("SENTENCE " + n, x.price(n), 10 * (n + 1));
        }
        due("THE TEXT", x.price(-1), 550);
    }

    @Says(at = "Promise 13", words = "UNKNOWN")
    static void promise13UnknownIsASentenceThatIsNot() {
        for (int n : new int[] {0, 1, 9, 10}) {
            Made made = () -> {
                SaidAlready x = new SaidAlready();
                for (int i = 0; i < n; i++) {
                    write(x, "a");
                }
                return x;
            };
            eachAnswers("price, " + n, made, allBut(-1, n - 1), (x, s) -> x.price(s), UNKNOWN);
        }
    }

    // ---- Promise 14

    @Says(at = "Promise 14", words = "LEAST (what = -1), the i-th SENTENCE of the order (what = i)")
    static void promise14TheFirstAndTheTenthOfTheOrder() {
        SaidAlready x = text("aaaaaaaaaaaa", "b", "c", "d", "e", "f", "g", "h", "i", "aaaaaaaaaa");
        due("LEAST", x.order(-1), 12 * 9 + 80 + 100);
        due("the first", x.order(0), 1);
        due("the ninth", x.order(8), 9);
        due("the tenth", x.order(9), 0);
        due("LEAST is the same behind them", x.order(-1), 12 * 9 + 80 + 100);
        due("the one of one", text("a").order(0), 0);
    }

    @Says(at = "Promise 14", words = "NONE")
    static void promise14NoneIsAPlaceThatIsNot() {
        eachAnswers("order of none", SaidAlready::new, allBut(-1, -1), (x, what) -> x.order(what), NONE);
        eachAnswers("order of one", () -> text("a"), allBut(-1, 0), (x, what) -> x.order(what), NONE);
        eachAnswers("order of ten", () -> tenOfTwelve(), allBut(-1, 9), (x, what) -> x.order(what), NONE);
    }

    // ---- Promise 15

    @Says(at = "Promise 15", words = "KEPT, as bits.")
    static void promise15KeptHasABitForEachPair() {
        for (int pair = 0; pair < 12; pair++) {
            SaidAlready x = text("a");
            for (int n = 0; n < 12; n++) {
                keep(x, n == pair ? "a=A" : "b=B", -1);
            }
            due("PAIR " + pair + " alone", x.kept(), 1 << pair);
        }
        due("nothing to keep", new SaidAlready().kept(), 0);
    }
}
