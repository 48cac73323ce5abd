/** The boundaries that hold for all calls: which refusal is told, that it changes nothing, the last call. */
final class RefusalBoundaries extends Given {
    private static final long LOST = -1000000000000000000L;

    private RefusalBoundaries() {
    }

    // ---- objects to be asked

    static SaidAlready empty() {
        return new SaidAlready();
    }

    /** Something of each kind, and signs that are neither a SENTENCE nor a PAIR. */
    static SaidAlready some() {
        SaidAlready x = new SaidAlready();
        x.image(0);
        keep(x, "ab1=A1B", -1);
        keep(x, "c=C", 0);
        written(x, "ab2", "c", "de");
        x.rate(2, 7);
        x.must(0, 1);
        x.length(0, 40);
        x.length(0, 10);
        x.length(1, 45);
        x.image(1);
        keep(x, "c=D", 1);
        x.rate(3, 8);
        x.must(2, 2);
        x.length(1, 3);
        say(x, "dd=");
        return x;
    }

    /** As much as there can be of each kind. */
    static SaidAlready full() {
        SaidAlready x = new SaidAlready();
        x.image(0);
        fill(x);
        return x;
    }

    static void fill(SaidAlready x) {
        for (int n = 0; n < 12; n++) {
            keep(x, "" + (char) ('a' + n % 4) + n % 10 + "=" + (char) ('A' + n % 3) + n % 10, n - 1);
        }
        x.image(1);
        for (int n = 0; n < 10; n++) {
            write(x, "" + (char) ('a' + n % 5) + n / 2);
        }
        for (int n = 0; n < 12; n++) {
            x.length(0, 99 - n);
            x.length(1, 1 + 7 * n);
        }
        for (int word = 0; word < 16; word++) {
            x.must(word, word / 2);
        }
        rated(x, 99, 98, 97, 96, 95);
        say(x, "aaaaaaaaaaaa=AAAAAAAAAAAA~~~~~");
    }

    // ---- What it is

    @Says(at = "What it is", words = "An object is used for at most 512 calls after it has been made")
    static void the512thCallIsStillAnswered() {
        last("say", x -> x.say('b'), 1);
        last("wipe", x -> x.wipe(), 0);
        last("fault", x -> x.fault(1), 0);
        last("keep", x -> x.keep(0), NO);
        last("write", x -> x.write(), NO);
        last("pair", x -> x.pair(0, 202), '1');
        last("far", x -> x.far(0, 1), 5);
        last("match", x -> x.match(0, 0), 88);
        last("found", x -> x.found(1, 1), 38);
        last("filled", x -> x.filled(0, 2), '2');
        last("rate", x -> x.rate(4, 99), 10);
        last("price", x -> x.price(-1), 20);
        last("order", x -> x.order(-1), 20);
        last("kept", x -> x.kept(), 1);
        last("must", x -> x.must(15, 15), NONE);
        last("wrongs", x -> x.wrongs(), 1);
        last("goes", x -> x.goes(0, 1, 1), 1);
        last("learnt", x -> x.learnt(0), 0);
        last("otherwise", x -> x.otherwise(0, 1, 2), 1);
        last("clash", x -> x.clash(), NONE);
        last("length", x -> x.length(1, 99), 1);
        last("lengths", x -> x.lengths(), 1);
        last("laid", x -> x.laid(-1), 37);
        last("image", x -> x.image(1), 1);
        last("restore", x -> x.restore(0), 1);
        last("told", x -> x.told(20), 2);
        SaidAlready x = made(509);
        x.say('d');
        x.write();
        due("what the 511th call did stands", x.told(2), 3);
    }

    private static void last(String call, Ask ask, long want) {
        due(call + " as the 512th call", ask.of(made(511)), want);
    }

    /** An object behind so many calls. */
    private static SaidAlready made(int calls) {
        SaidAlready x = new SaidAlready();
        x.image(0);
        keep(x, "a1=AB1", -1);
        written(x, "a2", "3");
        x.must(0, 2);
        x.length(0, 7);
        for (int n = 1 + 7 + 5 + 2; n < calls; n++) {
            x.told(0);
        }
        return x;
    }

    // ---- Terms: which refusal

    @Says(at = "Terms", words = {"Calls that are refused answer, the first of these that fits:",
        "UNKNOWN -1 (there is no such PAIR, SENTENCE, WORD)"})
    static void termsUnknownGoesAheadOfAllOthers() {
        for (Made made : new Made[] {RefusalBoundaries::empty, RefusalBoundaries::some, RefusalBoundaries::full}) {
            for (int none : new int[] {LOW, -3, -2, 16, HIGH}) {
                due("keep, not FULL or NO", made.anew().keep(none), -1);
                due("pair, not OUTSIDE", made.anew().pair(none, 3), -1);
                due("found, not OUTSIDE", made.anew().found(none, 2), -1);
                due("filled, not NO", made.anew().filled(none, 0), -1);
                due("must, not OUTSIDE", made.anew().must(none, 16), -1);
                due("goes, not OUTSIDE", made.anew().goes(none, 0, 2), LOST - 1);
                due("goes, not OUTSIDE", made.anew().goes(0, none, 2), LOST - 1);
            }
        }
        due("found without PAIRS, not NONE", text("a").found(1, 0), -1);
        due("filled without PAIRS, not NO", text("a").filled(1, 0), -1);
    }

    @Says(at = "Terms", words = "UNKNOWN -1 (there is no such PAIR, SENTENCE, WORD)")
    static void termsUnknownIsTheCountThatThereIs() {
        SaidAlready x = some();
        due("PAIR 2", x.pair(2, 2), 1);
        due("PAIR 3", x.pair(3, 2), -1);
        due("SENTENCE 2", x.price(2), 20);
        due("SENTENCE 3", x.price(3), -1);
        due("WORD 15", x.learnt(15), NONE);
        due("WORD 16", x.learnt(16), -1);
        x.restore(1);
        due("PAIR 2 is no more", x.pair(2, 2), -1);
        x.restore(0);
        due("no PAIR is left", x.pair(0, 0), -1);
        due("no SENTENCE is left", x.price(0), -1);
    }

    @Says(at = "Terms", words = "OUTSIDE -2 (another number is not as told)")
    static void termsOutsideGoesAheadOfStateAndFullAndNone() {
        due("say, not FULL", full().say(32), -2);
        due("say, not FULL", full().say(127), -2);
        due("length, not FULL", full().length(0, 0), -2);
        due("length, not FULL", full().length(1, 100), -2);
        due("length, not FULL", full().length(2, 1), -2);
        due("restore, not STATE", empty().restore(-1), -2);
        due("restore, not STATE", empty().restore(2), -2);
        due("found without PAIRS, not NONE", text("a").found(0, 2), -2);
        due("found without PAIRS, not NONE", text("a").found(0, -1), -2);
        due("pair without one behind, not NONE", kept("a=A").pair(0, 3), -2);
    }

    @Says(at = "Terms", words = "STATE -3 (as told)")
    static void termsStateIsMinusThree() {
        due("restore", empty().restore(0), -3);
        due("restore", empty().restore(1), -3);
    }

    @Says(at = "Terms", words = "FULL -4")
    static void termsFullGoesAheadOfNo() {
        due("keep of a FAULT", full().keep(-1), -4);
        due("keep of a FAULT", full().keep(11), -4);
        due("write of a FAULT", full().write(), -4);
        SaidAlready x = full();
        x.wipe();
        due("keep of nothing", x.keep(-1), -4);
        due("write of nothing", x.write(), -4);
        say(x, "a=A");
        due("keep of a PAIR", x.keep(-1), -4);
        x.wipe();
        say(x, "a");
        due("write of a SENTENCE", x.write(), -4);
    }

    @Says(at = "Terms", words = "NO -5 (as told)")
    static void termsNoIsMinusFive() {
        due("keep", some().keep(0), -5);
        due("write", some().write(), -5);
        due("filled", some().filled(2, 0), -5);
    }

    // ---- Terms: they change nothing

    @Says(at = "Terms", words = "They change nothing.")
    static void termsRefusedByAnEmptyObject() {
        Made made = RefusalBoundaries::empty;
        anyRefuses(made);
        refused("keep(-1)", made, x -> x.keep(-1), NO);
        refused("keep(0)", made, x -> x.keep(0), UNKNOWN);
        refused("write()", made, x -> x.write(), NO);
        refused("pair(0, 0)", made, x -> x.pair(0, 0), UNKNOWN);
        refused("far(0, 0)", made, x -> x.far(0, 0), UNKNOWN);
        refused("match(0, 0)", made, x -> x.match(0, 0), UNKNOWN);
        refused("found(0, 0)", made, x -> x.found(0, 0), UNKNOWN);
        refused("filled(0, 0)", made, x -> x.filled(0, 0), UNKNOWN);
        refused("price(0)", made, x -> x.price(0), UNKNOWN);
        refused("restore(0)", made, x -> x.restore(0), STATE);
        refused("restore(1)", made, x -> x.restore(1), STATE);
    }

    @Says(at = "Terms", words = "They change nothing.")
    static void termsRefusedByAnObjectThatHoldsSome() {
        Made made = RefusalBoundaries::some;
        anyRefuses(made);
        refused("keep(-1)", made, x -> x.keep(-1), NO);
        refused("keep(2)", made, x -> x.keep(2), NO);
        refused("keep(3)", made, x -> x.keep(3), UNKNOWN);
        refused("write()", made, x -> x.write(), NO);
        refused("pair(3, 0)", made, x -> x.pair(3, 0), UNKNOWN);
        refused("pair(0, 103)", made, x -> x.pair(0, 103), OUTSIDE);
        refused("far(0, 3)", made, x -> x.far(0, 3), UNKNOWN);
        refused("match(3, 0)", made, x -> x.match(3, 0), UNKNOWN);
        refused("found(3, 0)", made, x -> x.found(3, 0), UNKNOWN);
        refused("filled(2, -1)", made, x -> x.filled(2, -1), NO);
        refused("price(3)", made, x -> x.price(3), UNKNOWN);
    }

    @Says(at = "Terms", words = "They change nothing.")
    static void termsRefusedByAPairThatIsGood() {
        Made made = () -> {
            SaidAlready x = some();
            say(x, "D");
            return x;
        };
        refused("keep(3)", made, x -> x.keep(3), UNKNOWN);
        refused("keep(-2)", made, x -> x.keep(-2), UNKNOWN);
        refused("write()", made, x -> x.write(), NO);
    }

    @Says(at = "Terms", words = "They change nothing.")
    static void termsRefusedByAFullObject() {
        Made made = RefusalBoundaries::full;
        anyRefuses(made);
        refused("say('a')", made, x -> x.say('a'), FULL);
        refused("keep(-1)", made, x -> x.keep(-1), FULL);
        refused("keep(11)", made, x -> x.keep(11), FULL);
        refused("keep(12)", made, x -> x.keep(12), UNKNOWN);
        refused("write()", made, x -> x.write(), FULL);
        refused("pair(12, 0)", made, x -> x.pair(12, 0), UNKNOWN);
        refused("far(10, 0)", made, x -> x.far(10, 0), UNKNOWN);
        refused("match(0, 12)", made, x -> x.match(0, 12), UNKNOWN);
        refused("found(10, 1)", made, x -> x.found(10, 1), UNKNOWN);
        refused("filled(10, 0)", made, x -> x.filled(10, 0), UNKNOWN);
        refused("price(10)", made, x -> x.price(10), UNKNOWN);
        refused("length(0, 1)", made, x -> x.length(0, 1), FULL);
        refused("length(1, 99)", made, x -> x.length(1, 99), FULL);
    }

    @Says(at = "Terms", words = "They change nothing.")
    static void termsRefusedByAFullObjectWithAGoodPad() {
        Made withPair = () -> {
            SaidAlready x = full();
            x.wipe();
            say(x, "b2=C3");
            return x;
        };
        refused("keep(-1)", withPair, x -> x.keep(-1), FULL);
        Made withSentence = () -> {
            SaidAlready x = full();
            x.wipe();
            say(x, "b2");
            return x;
        };
        refused("write()", withSentence, x -> x.write(), FULL);
    }

    /** What is refused whatever the object holds. */
    private static void anyRefuses(Made made) {
        refused("say(32)", made, x -> x.say(32), OUTSIDE);
        refused("say(127)", made, x -> x.say(127), OUTSIDE);
        refused("fault(-1)", made, x -> x.fault(-1), OUTSIDE);
        refused("fault(2)", made, x -> x.fault(2), OUTSIDE);
        refused("keep(-2)", made, x -> x.keep(-2), UNKNOWN);
        refused("rate(-1, 3)", made, x -> x.rate(-1, 3), OUTSIDE);
        refused("rate(5, 3)", made, x -> x.rate(5, 3), OUTSIDE);
        refused("price(-2)", made, x -> x.price(-2), UNKNOWN);
        refused("must(-1, 3)", made, x -> x.must(-1, 3), UNKNOWN);
        refused("must(16, 3)", made, x -> x.must(16, 3), UNKNOWN);
        for (int n = 0; n < 5; n++) {
            int band = n;
            refused("rate(" + n + ", -1)", made, x -> x.rate(band, -1), OUTSIDE);
            refused("rate(" + n + ", 100)", made, x -> x.rate(band, 100), OUTSIDE);
        }
        for (int n = 0; n < 16; n++) {
            int word = n;
            refused("must(" + n + ", -2)", made, x -> x.must(word, -2), OUTSIDE);
            refused("must(" + n + ", 16)", made, x -> x.must(word, 16), OUTSIDE);
        }
        refused("goes(16, 0, 0)", made, x -> x.goes(16, 0, 0), LOST - 1);
        refused("goes(0, 0, 2)", made, x -> x.goes(0, 0, 2), LOST - 2);
        refused("learnt(16)", made, x -> x.learnt(16), UNKNOWN);
        refused("otherwise(16, 0, 1)", made, x -> x.otherwise(16, 0, 1), UNKNOWN);
        refused("otherwise(0, -1, 1)", made, x -> x.otherwise(0, -1, 1), UNKNOWN);
        refused("otherwise(0, 0, -1)", made, x -> x.otherwise(0, 0, -1), UNKNOWN);
        refused("otherwise(0, 0, 16)", made, x -> x.otherwise(0, 0, 16), UNKNOWN);
        refused("length(2, 5)", made, x -> x.length(2, 5), OUTSIDE);
        refused("length(-1, 5)", made, x -> x.length(-1, 5), OUTSIDE);
        refused("length(0, 0)", made, x -> x.length(0, 0), OUTSIDE);
        refused("length(1, 100)", made, x -> x.length(1, 100), OUTSIDE);
        refused("image(-1)", made, x -> x.image(-1), OUTSIDE);
        refused("image(2)", made, x -> x.image(2), OUTSIDE);
        refused("restore(-1)", made, x -> x.restore(-1), OUTSIDE);
        refused("restore(2)", made, x -> x.restore(2), OUTSIDE);
        refused("told(36)", made, x -> x.told(36), OUTSIDE);
    }

    // ---- Terms: quotients and fractions

    @Says(at = "Terms", words = "Quotients are cut.")
    static void termsAQuotientIsCutNotRounded() {
        due("100 less 25 by 3, which is 8 and a third", like("aa1", "aa2"), 92);
        due("100 less 25 by 9, which is 2 and seven ninths", like("aaaaaaaa1", "aaaaaaaa2"), 98);
        due("100 less 25 by 12, which is 2 and a twelfth", like("aaaaaaaaaaa1", "aaaaaaaaaaa2"), 98);
        due("100 less 100 by 6, which is 16 and two thirds", like("aaaaaa", "aaaaab"), 84);
        due("100 less 100 by 4, which is 25", like("aaaa", "aaab"), 75);
        due("100 less 1100 by 12, which is 91 and two thirds", like("aaaaaaaaaaaa", "bbbbbbbbbbba"), 9);
    }

    @Says(at = "Terms", words = "Fractions are told by part: 0 the upper, 1 the lower number")
    static void termsPartZeroIsUpperPartOneIsLower() {
        SaidAlready x = kept("a=A", "a=B", "a=C");
        due("2 by 4, the upper", x.goes(0, 0, 0), 1);
        due("2 by 4, the lower", x.goes(0, 0, 1), 2);
    }

    @Says(at = "Terms", words = "in lowest terms")
    static void termsFractionsOfAllSizesAreInLowestTerms() {
        for (int both = 1; both <= 12; both++) {
            for (int one = 0; both + one <= 12; one++) {
                SaidAlready x = new SaidAlready();
                for (int n = 0; n < both + one; n++) {
                    keep(x, n < both ? "a=A" : "a=B", -1);
                }
                int divisor = divisorOf(2 * both, 2 * both + one);
                due("upper of " + 2 * both + " by " + (2 * both + one), x.goes(0, 0, 0), 2 * both / divisor);
                due("lower of " + 2 * both + " by " + (2 * both + one), x.goes(0, 0, 1), (2 * both + one) / divisor);
            }
        }
    }

    private static int divisorOf(int a, int b) {
        return b == 0 ? a : divisorOf(b, a % b);
    }

    @Says(at = "Terms", words = "(0 by 1 for nothing)")
    static void termsNothingIsZeroByOne() {
        SaidAlready x = kept("a=A", "b=B");
        String[] why = {"never together", "the one is in no PAIR", "the other is in no PAIR", "neither is"};
        int[][] words = {{0, 1}, {2, 0}, {0, 2}, {15, 15}};
        for (int i = 0; i < why.length; i++) {
            due(why[i] + ", upper", x.goes(words[i][0], words[i][1], 0), 0);
            due(why[i] + ", lower", x.goes(words[i][0], words[i][1], 1), 1);
        }
        due("without PAIRS, upper", empty().goes(0, 0, 0), 0);
        due("without PAIRS, lower", empty().goes(0, 0, 1), 1);
    }

    @Says(at = "Terms", words = "refused with LOST and the refusal")
    static void termsAFractionIsRefusedWithLostAndTheRefusal() {
        due("UNKNOWN", empty().goes(16, 0, 0), -1000000000000000001L);
        due("OUTSIDE", empty().goes(0, 0, 2), -1000000000000000002L);
        due("UNKNOWN by the constants", empty().goes(16, 0, 0), SaidAlready.LOST + SaidAlready.UNKNOWN);
        due("OUTSIDE by the constants", empty().goes(0, 0, 2), SaidAlready.LOST + SaidAlready.OUTSIDE);
    }
}
