import java.util.Arrays;
import java.util.List;

/** The boundaries of part 5: texts side by side, images, what is told (promises 22 to 27). */
final class SideBoundaries extends Given {
    private static final int[] NOTHING = {};

    private SideBoundaries() {
    }

    private static void laidDue(int[] one, int[] other, long cost, long ways, String steps) {
        String what = Arrays.toString(one) + " and " + Arrays.toString(other);
        SaidAlready x = laid(one, other);
        due("COST of " + what, x.laid(-1), cost);
        due("WAYS of " + what, x.laid(-2), ways);
        due("how many STEPS of " + what, x.laid(-3), steps.length());
        same("STEPS of " + what, steps(x), steps);
    }

    private static int[] row(int... lengths) {
        return lengths;
    }

    // ---- Terms 5

    @Says(at = "Terms 5", words = "LENGTHS of two texts, 12 at most of each")
    static void terms5TwelveLengthsOfEach() {
        for (int text = 0; text < 2; text++) {
            SaidAlready x = new SaidAlready();
            for (int n = 1; n <= 12; n++) {
                due("length", x.length(text, 5), n);
            }
            due("a 13th", x.length(text, 5), FULL);
            due("the other text has room", x.length(1 - text, 5), 1);
        }
    }

    @Says(at = "Terms 5", words = "(1 to 99 each)")
    static void terms5LengthsAreOneTo99() {
        for (int v = 1; v <= 99; v++) {
            SaidAlready x = new SaidAlready();
            due("length", x.length(0, v), 1);
            due("its cost alone", x.laid(-1), 30 + v);
            due("length", x.length(1, v), 1);
            due("its cost beside the same", x.laid(-1), 0);
        }
        due("0", new SaidAlready().length(0, 0), OUTSIDE);
        due("100", new SaidAlready().length(0, 100), OUTSIDE);
    }

    @Says(at = "Terms 5", words = "They are LAID by STEPS: 0 one to one, 1 one to none, 2 none to one, 3 two to one, "
            + "4 one to two, 5 two to two:")
    static void terms5EachStepByItself() {
        laidDue(row(40), row(40), 0, 1, "0");
        laidDue(row(40), NOTHING, 70, 1, "1");
        laidDue(NOTHING, row(40), 70, 1, "2");
        laidDue(row(20, 20), row(40), 10, 1, "3");
        laidDue(row(40), row(20, 20), 10, 1, "4");
        laidDue(row(10, 40), row(40, 10), 15, 1, "5");
        laidDue(row(40), row(1, 1, 40), 31 + 11, 1, "24");
        laidDue(row(1, 1, 40), row(40), 31 + 11, 1, "13");
    }

    @Says(at = "Terms 5", words = "each costs how far LENGTHS of both (together) are from one another")
    static void terms5CostsByLengthsTogether() {
        laidDue(row(1), row(99), 98, 1, "0");
        laidDue(row(99), row(1), 98, 1, "0");
        laidDue(row(20, 25), row(40), 15, 1, "3");
        laidDue(row(20, 15), row(40), 15, 1, "3");
        laidDue(row(40), row(20, 25), 15, 1, "4");
        laidDue(row(40), row(20, 15), 15, 1, "4");
        laidDue(row(10, 45), row(40, 10), 20, 1, "5");
        laidDue(row(10, 40), row(40, 15), 20, 1, "5");
        laidDue(row(99), NOTHING, 129, 1, "1");
        laidDue(NOTHING, row(1), 31, 1, "2");
    }

    @Says(at = "Terms 5", words = "and 0, 30, 30, 10, 10, 15 besides.")
    static void terms5CostsBesidesAtTheirEdges() {
        laidDue(row(10, 17), row(17, 10), 14, 1, "00");
        laidDue(row(10, 18), row(18, 10), 15, 1, "5");
        laidDue(row(1, 99), row(99), 11, 1, "3");
        laidDue(row(99), row(1, 99), 11, 1, "4");
        laidDue(row(1, 99, 99), row(99, 99), 11, 1, "30");
        laidDue(times(12, 99), NOTHING, 12 * 129, 1, "111111111111");
        laidDue(NOTHING, times(12, 99), 12 * 129, 1, "222222222222");
    }

    @Says(at = "Terms 5", words = "COST: the least of all ways to lay both wholly")
    static void terms5BothAreLaidWholly() {
        laidDue(NOTHING, NOTHING, 0, 1, "");
        laidDue(times(12, 9), times(12, 9), 0, 1, "000000000000");
        laidDue(times(12, 99), times(12, 1), 12 * 98, 1, "000000000000");
        laidDue(times(12, 9), row(9), 10 * 39 + 19, 11, "11111111113");
        laidDue(row(9), times(12, 9), 10 * 39 + 19, 11, "22222222224");
        laidDue(times(12, 10), times(6, 20), 60, 1, "333333");
        laidDue(times(6, 20), times(12, 10), 60, 1, "444444");
    }

    @Says(at = "Terms 5", words = "WAYS: how many of so little")
    static void terms5WaysAreThoseOfTheLeastCost() {
        laidDue(times(3, 10), times(2, 15), 20, 2, "03");
        laidDue(times(12, 10), times(8, 15), 80, 70, "00003333");
        laidDue(times(8, 15), times(12, 10), 80, 70, "00004444");
        laidDue(times(12, 9), times(11, 9), 19, 11, "00000000003");
        laidDue(times(11, 9), times(12, 9), 19, 11, "00000000004");
        laidDue(row(10, 10), row(30), 20, 1, "3");
    }

    @Says(at = "Terms 5", words = "STEPS: the first such row")
    static void terms5MoreStepsThanLengthsOfOneText() {
        laidDue(row(1, 1, 1, 1, 1, 1, 1, 1, 1, 99, 99, 99), row(99, 99, 99, 1, 1, 1, 1, 1, 1, 1, 1, 1),
                8 * 31 + 11 + 0 + 11 + 8 * 31, 1, "1111111130422222222");
    }

    @Says(at = "Terms 5", words = "STEPS: the first such row by STEPS' numbers.")
    static void terms5TheFirstRowByNumbers() {
        laidDue(times(3, 10), times(2, 15), 20, 2, "03");
        laidDue(row(5, 5, 5), row(5), 10 + 5 + 35, 2, "13");
        laidDue(row(5), row(5, 5, 5), 10 + 5 + 35, 2, "24");
    }

    // ---- Promise 22

    @Says(at = "Promise 22", words = "A LENGTH more of a text (0, 1): how many.")
    static void promise22LengthsOfBothTextsApart() {
        SaidAlready x = new SaidAlready();
        for (int n = 1; n <= 12; n++) {
            due("of text 0", x.length(0, 1), n);
            due("of text 1", x.length(1, 99), n);
        }
        due("of text 0", x.told(3), 12);
        due("of text 1", x.told(4), 12);
        due("they are those of their text", x.laid(-1), 12 * 98);
        SaidAlready y = new SaidAlready();
        y.length(0, 7);
        due("text 0 is the one", y.laid(0), 1);
        SaidAlready z = new SaidAlready();
        z.length(1, 7);
        due("text 1 is the other", z.laid(0), 2);
    }

    @Says(at = "Promise 22", words = "OUTSIDE")
    static void promise22OutsideIsAnotherTextOrLength() {
        Made made = SaidAlready::new;
        for (int v : new int[] {0, 1, 99, 100}) {
            eachAnswers("length of a text", made, allBut(0, 1), (x, text) -> x.length(text, v), OUTSIDE);
        }
        eachAnswers("length(0)", made, allBut(1, 99), (x, v) -> x.length(0, v), OUTSIDE);
        eachAnswers("length(1)", made, allBut(1, 99), (x, v) -> x.length(1, v), OUTSIDE);
        eachAnswers("length(0), full", RefusalBoundaries::full, allBut(1, 99), (x, v) -> x.length(0, v), OUTSIDE);
        eachAnswers("length, full", RefusalBoundaries::full, allBut(0, 1), (x, text) -> x.length(text, 5), OUTSIDE);
    }

    @Says(at = "Promise 22", words = "FULL")
    static void promise22FullIsA13thLength() {
        for (int text = 0; text < 2; text++) {
            SaidAlready x = laid(text == 0 ? times(12, 5) : NOTHING, text == 0 ? NOTHING : times(12, 5));
            for (int v = 1; v <= 99; v++) {
                due("a 13th of " + v, x.length(text, v), FULL);
            }
            due("12 are there", x.told(3 + text), 12);
            due("the other is empty", x.told(4 - text), 0);
            x.lengths();
            due("room again", x.length(text, 5), 1);
        }
    }

    // ---- Promise 23

    @Says(at = "Promise 23", words = "LENGTHS of both go: how many there were.")
    static void promise23LengthsOfNoneOneAndTwelve() {
        for (int n : new int[] {0, 1, 12}) {
            for (int m : new int[] {0, 1, 12}) {
                SaidAlready x = laid(times(n, 3), times(m, 4));
                due("lengths of " + n + " and " + m, x.lengths(), n + m);
                due("none of the one", x.told(3), 0);
                due("none of the other", x.told(4), 0);
                due("none to go", x.lengths(), 0);
                due("nothing to lay", x.laid(-1), 0);
            }
        }
    }

    // ---- Promise 24

    @Says(at = "Promise 24", words = "COST (what = -1), WAYS (-2), how many STEPS (-3), the i-th of them (what = i)")
    static void promise24LaidOfNoneOneAndTwelve() {
        SaidAlready none = new SaidAlready();
        due("COST of nothing", none.laid(-1), 0);
        due("WAYS of nothing", none.laid(-2), 1);
        due("STEPS of nothing", none.laid(-3), 0);
        SaidAlready one = laid(row(5), row(9));
        due("COST of one", one.laid(-1), 4);
        due("WAYS of one", one.laid(-2), 1);
        due("STEPS of one", one.laid(-3), 1);
        due("the only one", one.laid(0), 0);
        SaidAlready most = laid(times(12, 9), row(9));
        due("COST", most.laid(-1), 409);
        due("WAYS", most.laid(-2), 11);
        due("STEPS", most.laid(-3), 11);
        due("the first", most.laid(0), 1);
        due("the last", most.laid(10), 3);
        due("twelve of none", laid(times(12, 9), NOTHING).laid(11), 1);
    }

    @Says(at = "Promise 24", words = "NONE")
    static void promise24NoneIsAPlaceThatIsNot() {
        eachAnswers("laid of nothing", SaidAlready::new, allBut(-3, -1), (x, what) -> x.laid(what), NONE);
        eachAnswers("laid of one", () -> laid(row(5), row(9)), allBut(-3, 0), (x, what) -> x.laid(what), NONE);
        Made most = () -> laid(times(12, 9), NOTHING);
        eachAnswers("laid of twelve", most, allBut(-3, 11), (x, what) -> x.laid(what), NONE);
    }

    // ---- Promise 25

    /** What an IMAGE keeps, each changed by itself. */
    private static final Ask[] CHANGES = {
        x -> keep(x, "d=D", 1), x -> write(x, "c"), x -> x.otherwise(0, 0, 4), x -> x.rate(0, 40), x -> x.rate(4, 41),
        x -> x.must(0, -1), x -> x.must(15, 15), x -> x.length(0, 33), x -> x.length(1, 34), x -> x.lengths()};

    /** Something of each kind, without signs. */
    private static SaidAlready held() {
        SaidAlready x = RefusalBoundaries.some();
        x.wipe();
        return x;
    }

    private static SaidAlready imaged(int n) {
        SaidAlready x = held();
        x.image(n);
        return x;
    }

    @Says(at = "Promise 25", words = {"All but signs is kept in an IMAGE (0, 1)", "1."})
    static void promise25AllButSignsIsKept() {
        for (int n = 0; n < 2; n++) {
            int image = n;
            due("image", held().image(n), 1);
            same("it changes nothing", Look.pairs(imaged(n)) + Look.settings(imaged(n)),
                    Look.pairs(held()) + Look.settings(held()));
            for (Ask change : CHANGES) {
                String kept = Look.at(() -> imaged(image));
                same("as before the change", Look.at(() -> {
                    SaidAlready x = imaged(image);
                    change.of(x);
                    x.restore(image);
                    return x;
                }), kept);
                Due.holds("the change is seen", !Look.at(() -> {
                    SaidAlready x = imaged(image);
                    change.of(x);
                    return x;
                }).equals(kept));
            }
        }
    }

    @Says(at = "Promise 25", words = "All but signs is kept")
    static void promise25SignsAreNotKept() {
        SaidAlready x = new SaidAlready();
        say(x, "ab");
        x.image(0);
        due("image leaves the signs", x.told(0), 2);
        x.say('c');
        x.restore(0);
        due("restore leaves those of now", x.told(0), 3);
        due("they can be written", x.write(), 0);
        due("there are three", x.price(0), 30);
        x.restore(0);
        due("the SENTENCE is gone", x.told(2), 0);
        due("its signs do not come back", x.told(0), 0);
        say(x, "~".repeat(30));
        x.restore(0);
        due("a full PAD stays", x.told(0), 30);
    }

    @Says(at = "Promise 25", words = "IMAGE (0, 1)")
    static void promise25TwoImagesApart() {
        SaidAlready x = new SaidAlready();
        x.rate(0, 50);
        x.image(0);
        x.rate(0, 60);
        x.image(1);
        x.rate(0, 70);
        x.restore(0);
        due("IMAGE 0", x.told(10), 50);
        x.restore(1);
        due("IMAGE 1", x.told(10), 60);
        x.rate(0, 80);
        due("IMAGE 0 anew", x.image(0), 1);
        x.restore(1);
        due("IMAGE 1 is as it was", x.told(10), 60);
        x.restore(0);
        due("IMAGE 0 is the new one", x.told(10), 80);
    }

    @Says(at = "Promise 25", words = "OUTSIDE")
    static void promise25OutsideIsAnotherImage() {
        eachAnswers("image", RefusalBoundaries::some, allBut(0, 1), (x, n) -> x.image(n), OUTSIDE);
        SaidAlready x = new SaidAlready();
        x.image(-1);
        x.image(2);
        due("it kept none", x.restore(0), STATE);
        due("it kept none", x.restore(1), STATE);
    }

    // ---- Promise 26

    @Says(at = "Promise 26", words = {"It is as it was when it was kept", "1."})
    static void promise26AsItWasWhenItWasKept() {
        for (int n = 0; n < 2; n++) {
            int image = n;
            Made made = () -> imaged(image);
            same("all changed at once", Look.at(() -> restored(image, CHANGES)), Look.at(made));
            due("restore", made.anew().restore(n), 1);
            SaidAlready twice = restored(image, CHANGES);
            due("restore again", twice.restore(n), 1);
            twice.rate(2, 99);
            twice.restore(n);
            due("an IMAGE is not changed behind it", twice.told(12), 7);
        }
    }

    private static SaidAlready restored(int image, Ask... changes) {
        SaidAlready x = imaged(image);
        for (Ask change : changes) {
            change.of(x);
        }
        x.restore(image);
        return x;
    }

    @Says(at = "Promise 26", words = "It is as it was when it was kept")
    static void promise26FromFullToEmptyAndBack() {
        SaidAlready x = RefusalBoundaries.full();
        x.wipe();
        x.image(1);
        x.restore(0);
        due("no PAIRS", x.told(1), 0);
        due("no SENTENCES", x.told(2), 0);
        due("no LENGTHS", x.told(3) + x.told(4), 0);
        due("RATES as at first", x.told(14), 10);
        due("no MUST", x.told(35), NONE);
        due("PAIRS count from 0 on", keep(x, "p=P", -1), 0);
        due("SENTENCES count from 0 on", write(x, "p"), 0);
        due("LENGTHS count from 1 on", x.length(0, 5), 1);
        x.restore(1);
        due("12 PAIRS", x.told(1), 12);
        due("FULL again", keep(x, "p=P", -1), FULL);
        x.wipe();
        due("10 SENTENCES", x.told(2), 10);
        due("FULL again", write(x, "p"), FULL);
        due("FULL again", x.length(0, 5), FULL);
        same("the first PAIR", first(x, 0) + second(x, 0), "a0A0");
        due("the 12th stood behind the 11th", x.pair(11, 2), 10);
    }

    /** Few things, all unlike those of a full object that stand in the same places. */
    private static void fillAFew(SaidAlready x) {
        keep(x, "nop=N", -1);
        keep(x, "p=OP", -1);
        keep(x, "p1=O1", 0);
        written(x, "op1", "op2", "n", "m");
        x.length(0, 50);
        x.length(1, 60);
        x.must(13, 13);
    }

    /** The dear questions, for which an object may keep what it found. */
    private static void ask(SaidAlready x) {
        x.order(-1);
        x.order(9);
        x.kept();
        x.laid(-1);
        x.found(0, 0);
        x.filled(0, -1);
        x.price(-1);
    }

    @Says(at = "Promise 26", words = "It is as it was when it was kept")
    static void promise26OtherThingsStoodInTheSamePlaces() {
        same("few, then others, then few", Look.now(() -> {
            SaidAlready x = new SaidAlready();
            x.image(0);
            fillAFew(x);
            x.image(1);
            x.restore(0);
            keep(x, "a=A", -1);
            keep(x, "b=B", 0);
            keep(x, "c=C", 1);
            written(x, "c", "b", "a", "a");
            ask(x);
            x.restore(1);
            return x;
        }), Look.now(() -> {
            SaidAlready x = new SaidAlready();
            fillAFew(x);
            return x;
        }));
    }

    @Says(at = "Promise 26", words = "It is as it was when it was kept")
    static void promise26WhatWasAskedAheadDoesNotMatter() {
        same("few behind full", Look.now(() -> {
            SaidAlready x = RefusalBoundaries.full();
            x.wipe();
            ask(x);
            x.restore(0);
            fillAFew(x);
            return x;
        }), Look.now(() -> {
            SaidAlready x = new SaidAlready();
            fillAFew(x);
            return x;
        }));
        same("full behind few", Look.now(() -> {
            SaidAlready x = new SaidAlready();
            x.image(0);
            fillAFew(x);
            ask(x);
            x.restore(0);
            RefusalBoundaries.fill(x);
            return x;
        }), Look.now(RefusalBoundaries::full));
        SaidAlready x = new SaidAlready();
        x.image(0);
        written(x, "a", "a");
        due("both are the same", x.order(-1), 12);
        x.restore(0);
        write(x, "a");
        due("one alone", x.order(-1), 10);
        write(x, "b");
        due("they are not the same now", x.order(-1), 20);
        x.restore(0);
        keep(x, "a=A", -1);
        write(x, "a");
        due("a PAIR is needed", x.kept(), 1);
        x.restore(0);
        keep(x, "a=A", -1);
        write(x, "b");
        due("none is needed now", x.kept(), 0);
    }

    @Says(at = "Promise 26", words = "OUTSIDE")
    static void promise26OutsideIsAnotherImage() {
        eachAnswers("restore", RefusalBoundaries::some, allBut(0, 1), (x, n) -> x.restore(n), OUTSIDE);
        eachAnswers("restore, none kept", SaidAlready::new, allBut(0, 1), (x, n) -> x.restore(n), OUTSIDE);
    }

    @Says(at = "Promise 26", words = "STATE: it was not.")
    static void promise26StateIsAnImageThatWasNotKept() {
        for (int n = 0; n < 2; n++) {
            SaidAlready x = new SaidAlready();
            due("neither", x.restore(n), STATE);
            x.image(1 - n);
            due("the other one alone", x.restore(n), STATE);
            x.restore(1 - n);
            due("the other one alone, restored", x.restore(n), STATE);
            x.image(n);
            due("both", x.restore(n), 1);
            x.restore(1 - n);
            due("an IMAGE stays kept, whichever is restored", x.restore(n), 1);
        }
    }

    // ---- Promise 27

    @Says(at = "Promise 27", words = "0 signs, 1 PAIRS, 2 SENTENCES of THE TEXT, 3 and 4 LENGTHS")
    static void promise27ToldFromNoneToFull() {
        SaidAlready x = RefusalBoundaries.full();
        int[] most = {30, 12, 10, 12, 12};
        for (int what = 0; what < 5; what++) {
            due("none of " + what, new SaidAlready().told(what), 0);
            due("full of " + what, x.told(what), most[what]);
        }
        SaidAlready y = laid(row(5, 5), row(5));
        due("LENGTHS of text 0", y.told(3), 2);
        due("LENGTHS of text 1", y.told(4), 1);
        SaidAlready z = text("a", "a");
        keep(z, "a=A", -1);
        say(z, "aaa");
        due("signs", z.told(0), 3);
        due("PAIRS", z.told(1), 1);
        due("SENTENCES", z.told(2), 2);
    }

    @Says(at = "Promise 27", words = "10 to 14 RATES")
    static void promise27RatesAreToldFrom10To14() {
        SaidAlready x = rated(new SaidAlready(), 0, 99, 1, 98, 50);
        int[] rates = {0, 99, 1, 98, 50};
        for (int band = 0; band < 5; band++) {
            due("told(" + (10 + band) + ")", x.told(10 + band), rates[band]);
        }
        due("9", x.told(9), OUTSIDE);
        due("15", x.told(15), OUTSIDE);
    }

    @Says(at = "Promise 27", words = "20 to 35 MUSTS (NONE)")
    static void promise27MustsAreToldFrom20To35() {
        SaidAlready x = new SaidAlready();
        for (int word = 0; word < 16; word++) {
            due("none yet", x.told(20 + word), NONE);
            x.must(word, 15 - word);
            due("told(" + (20 + word) + ")", x.told(20 + word), 15 - word);
        }
        x.must(0, -1);
        due("none any more", x.told(20), NONE);
        due("the next one stays", x.told(21), 14);
        due("19", x.told(19), OUTSIDE);
        due("36", x.told(36), OUTSIDE);
    }

    @Says(at = "Promise 27", words = "OUTSIDE")
    static void promise27OutsideIsAnotherWhat() {
        for (Made made : new Made[] {SaidAlready::new, RefusalBoundaries::full}) {
            List<Integer> wrong = allBut(0, 35);
            for (int what : new int[] {5, 6, 7, 8, 9, 15, 16, 17, 18, 19}) {
                wrong.add(what);
            }
            eachAnswers("told", made, wrong, (x, what) -> x.told(what), OUTSIDE);
        }
    }
}
