/** Each promise of the document by itself: ordinary calls, the edges that it names, wrong inputs. */
public final class PromisesTest extends Given {
    private PromisesTest() {
    }

    public static void main(String[] args) {
        promise1NewObject();
        promise2Say();
        promise3Wipe();
        promise4FaultOfSentence();
        promise4FaultOfPair();
        promise5Keep();
        promise6Write();
        promise7Pair();
        promise8Far();
        promise9Match();
        promise10Found();
        promise11Filled();
        promise12Rate();
        promise13Price();
        promise13BandsAtTheirEdges();
        promise14Order();
        promise14OrderByOddRates();
        promise15Kept();
        promise16Must();
        promise17Wrongs();
        promise18Goes();
        promise19Learnt();
        promise20Otherwise();
        promise21Clash();
        promise22Length();
        promise23Lengths();
        promise24Laid();
        promise24LaidInManyWays();
        promise25And26Images();
        promise26OtherThingsInTheSamePlaces();
        promise27Told();
        Due.end();
    }

    // ---- the promises

    private static void promise1NewObject() {
        SaidAlready x = new SaidAlready();
        due("signs", x.told(0), 0);
        due("pairs", x.told(1), 0);
        due("sentences", x.told(2), 0);
        due("lengths of one", x.told(3), 0);
        due("lengths of other", x.told(4), 0);
        int[] rates = {1, 2, 5, 9, 10};
        for (int band = 0; band < 5; band++) {
            due("rate at first", x.told(10 + band), rates[band]);
        }
        for (int word = 0; word < 16; word++) {
            due("must at first", x.told(20 + word), NONE);
        }
        due("price of nothing", x.price(-1), 0);
        due("least of nothing", x.order(-1), 0);
        due("order of nothing", x.order(0), NONE);
        due("kept of nothing", x.kept(), 0);
        due("no image", x.restore(0), STATE);
        due("no image", x.restore(1), STATE);
        say(x, "a=A");
        x.keep(-1);
        due("another object is new", new SaidAlready().told(1), 0);
    }

    private static void promise2Say() {
        SaidAlready x = new SaidAlready();
        due("say(32)", x.say(32), OUTSIDE);
        due("say(127)", x.say(127), OUTSIDE);
        due("say(LOW)", x.say(LOW), OUTSIDE);
        due("say(HIGH)", x.say(HIGH), OUTSIDE);
        due("say(0)", x.say(0), OUTSIDE);
        due("say(33)", x.say(33), 1);
        due("say(126)", x.say(126), 2);
        for (int n = 3; n <= 30; n++) {
            due("say", x.say('a'), n);
        }
        due("a 31st", x.say('a'), FULL);
        due("OUTSIDE goes ahead of FULL", x.say(32), OUTSIDE);
        due("refused changes nothing", x.told(0), 30);
    }

    private static void promise3Wipe() {
        SaidAlready x = new SaidAlready();
        due("wipe of nothing", x.wipe(), 0);
        say(x, "~!=");
        due("wipe", x.wipe(), 3);
        due("wipe again", x.wipe(), 0);
        due("say after wipe", x.say('a'), 1);
        due("what was wiped is gone", x.fault(0), NONE);
    }

    private static void promise4FaultOfSentence() {
        due("empty", fault("", 0), 0);
        due("a", fault("a", 0), NONE);
        due("p", fault("p", 0), NONE);
        due("q", fault("q", 0), 0);
        due("`", fault("`", 0), 0);
        due("A", fault("A", 0), 0);
        due("0", fault("0", 0), NONE);
        due("9", fault("9", 0), NONE);
        due("/", fault("/", 0), 0);
        due(":", fault(":", 0), 0);
        due("=", fault("=", 0), 0);
        due("ab=", fault("ab=", 0), 2);
        due("ab~c~", fault("ab~c~", 0), 2);
        due("12 signs", fault("abcdefgh0123", 0), NONE);
        due("13 signs", fault("abcdefgh01234", 0), 12);
        due("a fault ahead of a 13th", fault("abcdeXgh01234", 0), 5);
        SaidAlready x = new SaidAlready();
        due("fault(-1)", x.fault(-1), OUTSIDE);
        due("fault(2)", x.fault(2), OUTSIDE);
        due("fault(LOW)", x.fault(LOW), OUTSIDE);
        due("fault(HIGH)", x.fault(HIGH), OUTSIDE);
        say(x, "ab");
        x.fault(0);
        due("fault leaves the signs", x.told(0), 2);
    }

    private static void promise4FaultOfPair() {
        due("empty", fault("", 1), 0);
        due("a", fault("a", 1), 1);
        due("12 signs", fault("aaaaaaaaaaaa", 1), 12);
        due("13 signs", fault("aaaaaaaaaaaaa", 1), 12);
        due("12 signs and =", fault("aaaaaaaaaaaa=", 1), 13);
        due("12 and 12", fault("aaaaaaaaaaaa=AAAAAAAAAAAA", 1), NONE);
        due("12 and 13", fault("aaaaaaaaaaaa=AAAAAAAAAAAAA", 1), 25);
        due("1 and 13", fault("a=AAAAAAAAAAAAA", 1), 14);
        due("13 and =", fault("aaaaaaaaaaaaa=A", 1), 12);
        due("=", fault("=", 1), 0);
        due("=A", fault("=A", 1), 0);
        due("A=A", fault("A=A", 1), 0);
        due("a=", fault("a=", 1), 2);
        due("a=A", fault("a=A", 1), NONE);
        due("1=2", fault("1=2", 1), NONE);
        due("a=a", fault("a=a", 1), 2);
        due("a=P", fault("a=P", 1), NONE);
        due("a=Q", fault("a=Q", 1), 2);
        due("a=@", fault("a=@", 1), 2);
        due("a==A", fault("a==A", 1), 2);
        due("a=A=", fault("a=A=", 1), 3);
        due("a=Ab", fault("a=Ab", 1), 3);
        due("aB=A", fault("aB=A", 1), 1);
        due("a~", fault("a~", 1), 1);
    }

    private static void promise5Keep() {
        SaidAlready x = new SaidAlready();
        due("keep of nothing", x.keep(-1), NO);
        say(x, "ab1=A1B");
        due("behind one that is not", x.keep(0), UNKNOWN);
        due("keep(-2)", x.keep(-2), UNKNOWN);
        due("keep(LOW)", x.keep(LOW), UNKNOWN);
        due("keep(HIGH)", x.keep(HIGH), UNKNOWN);
        due("refused changes nothing", x.told(0), 7);
        due("keep", x.keep(-1), 0);
        due("the pad is empty", x.told(0), 0);
        say(x, "c");
        due("a fault", x.keep(0), NO);
        due("UNKNOWN ahead of NO", x.keep(1), UNKNOWN);
        due("the pad stays", x.told(0), 1);
        say(x, "=C");
        due("keep behind 0", x.keep(0), 1);
        due("behind", x.pair(1, 2), 0);
        for (int n = 2; n < 12; n++) {
            due("keep", keep(x, "d=D", n - 1), n);
        }
        due("a 13th without signs", x.keep(-1), FULL);
        say(x, "d=D");
        due("a 13th", x.keep(11), FULL);
        due("UNKNOWN ahead of FULL", x.keep(12), UNKNOWN);
        due("refused changes nothing", x.told(1), 12);
        due("refused changes nothing", x.told(0), 3);
    }

    private static void promise6Write() {
        SaidAlready x = new SaidAlready();
        due("write of nothing", x.write(), NO);
        say(x, "a=A");
        due("a pair is no sentence", x.write(), NO);
        due("refused changes nothing", x.wipe(), 3);
        for (int n = 0; n < 10; n++) {
            due("write", write(x, "a" + n), n);
            due("the pad is empty", x.told(0), 0);
        }
        due("an 11th without signs", x.write(), FULL);
        say(x, "b");
        due("an 11th", x.write(), FULL);
        due("refused changes nothing", x.told(2), 10);
        due("refused changes nothing", x.told(0), 1);
        due("the text is not the memory", x.told(1), 0);
    }

    private static void promise7Pair() {
        SaidAlready x = kept("ab1=A1BC");
        keep(x, "abcdefghijkl=A", 0);
        due("first", x.pair(0, 0), 3);
        due("second", x.pair(0, 1), 4);
        due("behind none", x.pair(0, 2), NONE);
        due("behind", x.pair(1, 2), 0);
        same("first", first(x, 0), "ab1");
        same("second", second(x, 0), "A1BC");
        due("a 12th sign", x.pair(1, 111), 'l');
        due("a 13th sign", x.pair(1, 112), OUTSIDE);
        due("behind the first", x.pair(0, 103), OUTSIDE);
        due("behind the second", x.pair(0, 204), OUTSIDE);
        for (int what : new int[] {LOW, -101, -100, -1, 3, 99, 112, 199, 212, 300, HIGH}) {
            due("pair(0, " + what + ")", x.pair(0, what), OUTSIDE);
        }
        for (int pair : new int[] {LOW, -1, 2, 12, HIGH}) {
            due("pair(" + pair + ", 0)", x.pair(pair, 0), UNKNOWN);
            due("UNKNOWN ahead of OUTSIDE", x.pair(pair, 3), UNKNOWN);
        }
    }

    private static void promise8Far() {
        due("the same", far("ab1", "ab1"), 0);
        due("a word for a word", far("a", "b"), 4);
        due("a word for a number", far("a", "1"), 4);
        due("a number for a word", far("1", "a"), 4);
        due("a number for a number", far("1", "2"), 1);
        due("put in", far("a", "ab"), 4);
        due("taken out", far("ab", "b"), 4);
        due("put in and taken out", far("abcd", "bcde"), 8);
        due("numbers apart", far("a1b2c3", "a4b5c6"), 3);
        due("a number changed is cheaper than one moved", far("12345678", "23456781"), 8);
        due("numbers changed are cheaper", far("123", "231"), 3);
        due("nothing the same", far("aaaaaaaaaaaa", "b"), 48);
        due("all twelve", far("aaaaaaaaaaaa", "bbbbbbbbbbbb"), 48);
        due("a word moved", far("abcd", "bcda"), 8);
        SaidAlready x = text("a1", "a22");
        due("either way", x.far(0, 1), 5);
        due("either way", x.far(1, 0), 5);
        due("itself", x.far(1, 1), 0);
        for (int sentence : new int[] {LOW, -1, 2, 10, HIGH}) {
            due("far of none", x.far(sentence, 0), UNKNOWN);
            due("far to none", x.far(0, sentence), UNKNOWN);
        }
    }

    private static void promise9Match() {
        due("the same", like("a1", "a1"), 100);
        due("nothing the same", like("a", "b"), 0);
        due("nothing the same, another size", like("aaa", "b"), 0);
        due("quotients are cut", like("ab2", "ab1"), 92);
        due("by the longer one", like("cdf", "cdef"), 75);
        due("by the longer one", like("cdef", "cdf"), 75);
        due("one of twelve", like("aaaaaaaaaaa1", "aaaaaaaaaaa2"), 98);
        due("two of three", like("abc", "a"), 34);
        SaidAlready x = kept("a=A");
        keep(x, "b=B", 0);
        keep(x, "b=C", -1);
        keep(x, "b=D", 1);
        write(x, "b");
        write(x, "b");
        write(x, "a");
        write(x, "b");
        write(x, "c");
        due("nothing stands ahead", x.match(0, 1), 100);
        due("another one stands ahead", x.match(1, 1), 100);
        due("the same one stands ahead", x.match(3, 1), 101);
        due("it stood behind none", x.match(3, 2), 100);
        due("it stood behind another one", x.match(3, 3), 100);
        due("behind the one it stood behind", x.match(1, 3), 101);
        due("not the same, so not 101", x.match(4, 3), 0);
        SaidAlready y = text("a", "b");
        keep(y, "a=A", -1);
        keep(y, "b=B", 0);
        due("a pair kept behind the text", y.match(1, 1), 101);
        for (int none : new int[] {LOW, -1, 2, 12, HIGH}) {
            due("match of none", y.match(none, 0), UNKNOWN);
            due("match with none", y.match(0, none), UNKNOWN);
        }
    }

    private static void promise10Found() {
        SaidAlready x = text("abc");
        due("no pairs", x.found(0, 0), NONE);
        due("no pairs", x.found(0, 1), NONE);
        due("OUTSIDE ahead of NONE", x.found(0, 2), OUTSIDE);
        keep(x, "ddd=A", -1);
        due("a match of 0 is found", x.found(0, 0), 0);
        due("a match of 0", x.found(0, 1), 0);
        keep(x, "abd=A", -1);
        keep(x, "acc=A", -1);
        keep(x, "add=A", -1);
        due("the last of the greatest", x.found(0, 0), 2);
        due("the greatest", x.found(0, 1), 67);
        SaidAlready y = kept("a=A");
        keep(y, "b=B", 0);
        keep(y, "b=C", -1);
        write(y, "a");
        write(y, "b");
        due("one that stood behind the same goes ahead of a newer one", y.found(1, 0), 1);
        due("its match", y.found(1, 1), 101);
        due("found(-1, 0)", y.found(-1, 0), UNKNOWN);
        due("found(2, 0)", y.found(2, 0), UNKNOWN);
        due("found(LOW, 0)", y.found(LOW, 0), UNKNOWN);
        due("found(HIGH, 7)", y.found(HIGH, 7), UNKNOWN);
        due("found(0, -1)", y.found(0, -1), OUTSIDE);
        due("found(0, 2)", y.found(0, 2), OUTSIDE);
    }

    private static void promise11Filled() {
        SaidAlready x = text("a7b7", "a3b4", "a5bb", "a5b", "a9b8", "aab1");
        due("no pairs", x.filled(0, -1), NO);
        due("no pairs", x.filled(0, 5), NO);
        due("UNKNOWN", x.filled(6, 0), UNKNOWN);
        due("UNKNOWN", x.filled(-1, -1), UNKNOWN);
        due("UNKNOWN", x.filled(LOW, 0), UNKNOWN);
        due("UNKNOWN", x.filled(HIGH, 0), UNKNOWN);
        keep(x, "a1b2=B2A1C21D3", -1);
        same("both the same number", filled(x, 0), "B7A7C77D3");
        same("crossed, at once", filled(x, 1), "B4A3C43D3");
        due("a word for a number", x.filled(2, -1), NO);
        due("fewer signs", x.filled(3, -1), NO);
        due("a number for a word", x.filled(5, -1), NO);
        due("NO for each sign", x.filled(5, 0), NO);
        due("NO ahead of NONE", x.filled(5, 99), NO);
        due("how many", x.filled(4, -1), 9);
        due("behind the last", x.filled(4, 9), NONE);
        due("filled(4, HIGH)", x.filled(4, HIGH), NONE);
        due("filled(4, -2)", x.filled(4, -2), NONE);
        due("filled(4, LOW)", x.filled(4, LOW), NONE);
        same("the pair stays", second(x, 0), "B2A1C21D3");
        SaidAlready y = kept("1a1=11A2");
        write(y, "2a3");
        same("the first such place", filled(y, 0), "22A2");
        SaidAlready z = kept("12=21A");
        write(z, "21");
        same("numbers change at once, not one behind the other", filled(z, 0), "12A");
        SaidAlready v = kept("ab1=A", "abc=B");
        write(v, "abd");
        due("of FOUND alone", v.filled(0, -1), NO);
    }

    private static void promise12Rate() {
        SaidAlready x = new SaidAlready();
        int[] rates = {1, 2, 5, 9, 10};
        for (int band = 0; band < 5; band++) {
            due("rate", x.rate(band, 99 - band), rates[band]);
        }
        for (int band = 0; band < 5; band++) {
            due("rate", x.rate(band, 0), 99 - band);
            due("rate", x.rate(band, band), 0);
        }
        for (int band : new int[] {LOW, -1, 5, HIGH}) {
            due("no such band", x.rate(band, 0), OUTSIDE);
        }
        for (int v : new int[] {LOW, -1, 100, HIGH}) {
            due("no such rate", x.rate(3, v), OUTSIDE);
        }
        due("refused changes nothing", x.told(13), 3);
    }

    private static void promise13Price() {
        SaidAlready x = text("ab", "ab", "abcd", "ff");
        due("without pairs", x.price(0), 20);
        due("without pairs, together", x.price(-1), 100);
        keep(x, "ab=A", -1);
        keep(x, "ab=B", 0);
        due("100", x.price(0), 4);
        due("101", x.price(1), 2);
        due("50", x.price(2), 40);
        due("0", x.price(3), 20);
        due("together", x.price(-1), 66);
        x.rate(0, 50);
        due("by FOUND alone, though it is dearer", x.price(1), 100);
        for (int none : new int[] {LOW, -2, 4, HIGH}) {
            due("no such sentence", x.price(none), UNKNOWN);
        }
    }

    private static void promise13BandsAtTheirEdges() {
        String[][] held = {
            {"aaaaaaaaaa", "aaaaaaaaaa", "100", "1"},
            {"aaaaaaaaaaa1", "aaaaaaaaaaa2", "98", "2"},
            {"aaaaaaa", "aaaaaab", "86", "2"},
            {"aaa11", "aaa22", "90", "2"},
            {"111aa", "222aa", "85", "2"},
            {"aaaaaa", "aaaaab", "84", "3"},
            {"aaaaa", "aaabb", "60", "3"},
            {"aaaaaaaaaaaa", "aaaaaaabbbbb", "59", "4"},
            {"a", "b", "0", "4"}};
        for (String[] h : held) {
            SaidAlready x = kept(h[1] + "=A");
            write(x, h[0]);
            for (int band = 0; band < 5; band++) {
                x.rate(band, 10 + band);
            }
            due("match " + h[0] + " " + h[1], x.match(0, 0), Integer.parseInt(h[2]));
            due("band " + h[0] + " " + h[1], x.price(0), h[0].length() * (10 + Integer.parseInt(h[3])));
        }
    }

    private static void promise14Order() {
        SaidAlready x = text("aaaaaaaaaaaa", "aaaaaaaaab", "aaaaaaaaab");
        due("least", x.order(-1), 100 + 20 + 12 * 9);
        same("the smaller one helps the larger one", order(x), "102");
        due("order(3)", x.order(3), NONE);
        due("order(-2)", x.order(-2), NONE);
        due("order(LOW)", x.order(LOW), NONE);
        due("order(HIGH)", x.order(HIGH), NONE);
        SaidAlready y = text("h", "h", "g", "h");
        due("one helps its like", y.order(-1), 24);
        same("the first order by numbers", order(y), "0123");
        keep(y, "h=A", -1);
        due("the memory helps too", y.order(-1), 16);
        SaidAlready z = text("ab", "cd");
        keep(z, "ab=A", -1);
        keep(z, "cd=A", 0);
        due("a match of 101 holds in any order", z.order(-1), 4 + 2);
        same("so the first order", order(z), "01");
        SaidAlready ten = text("a", "b", "c", "d", "e", "f", "g", "h", "i", "j");
        due("ten", ten.order(-1), 100);
        same("ten", order(ten), "0123456789");
        SaidAlready back = text("aaaaaaaaaaaa", "aaaaaaaaaaa", "aaaaaaaaaa", "aaaaaaaaa", "aaaaaaaa",
                "aaaaaaa", "aaaaaa", "aaaaa", "aaaa", "aaa");
        due("each helps the next larger one", back.order(-1), 30 + (4 + 5 + 6) * 9 + (7 + 8 + 9 + 10 + 11 + 12) * 5);
        same("the one that helps none of need comes last", order(back), "9765432108");
    }

    private static void promise14OrderByOddRates() {
        SaidAlready x = text("aaaaa", "aaaab");
        keep(x, "aaaaa=A", -1);
        x.rate(1, 50);
        due("any match, not FOUND alone", x.price(-1), 5 * 50 + 5 * 9);
        due("BAND 4 is always to be had", x.order(-1), 5 * 9 + 5 * 9);
        same("the one that FOUND makes dear comes last", order(x), "10");
        x.rate(4, 3);
        due("BAND 4 is always to be had", x.order(-1), 5 * 3 + 5 * 3);
        same("then no order helps", order(x), "01");
        x.rate(3, 0);
        due("a worse band may be cheaper", x.order(-1), 0);
        same("a worse band may be cheaper", order(x), "10");
    }

    private static void promise15Kept() {
        SaidAlready x = kept("aaaaaaa=A", "aaaaaab=A", "bbbbbbb=A", "aaaaaaa=B");
        due("no text", x.kept(), 0);
        write(x, "ppppppp");
        due("BAND 4 needs none", x.kept(), 0);
        write(x, "aaaaaac");
        due("of several the least as bits", x.kept(), 1);
        write(x, "aaaaaab");
        due("one for both", x.kept(), 2);
        write(x, "aaaaaaa");
        due("two", x.kept(), 3);
        write(x, "bbbbbbb");
        due("three", x.kept(), 7);
        SaidAlready y = kept("a=A");
        keep(y, "b=B", 0);
        keep(y, "b=C", -1);
        write(y, "a");
        write(y, "b");
        due("the 101 is kept", y.kept(), 3);
        SaidAlready z = text("c", "b");
        keep(z, "c=A", -1);
        keep(z, "c=B", -1);
        keep(z, "b=B", 1);
        due("one stays behind a pair that is left out", z.kept(), 5);
        SaidAlready v = kept("aaaaabb=A", "aaaaaaa=A", "bbbbbbb=A");
        write(v, "aaaaaab");
        write(v, "bbbbbba");
        due("the fewest go ahead of the least", v.kept(), 5);
        v.rate(2, 9);
        due("bands, not rates", v.kept(), 5);
    }

    private static void promise16Must() {
        SaidAlready x = new SaidAlready();
        due("none at first", x.must(0, 15), NONE);
        due("which it was", x.must(0, 3), 15);
        due("none again", x.must(0, -1), 3);
        due("which it was", x.must(0, -1), NONE);
        due("the last word", x.must(15, 0), NONE);
        for (int word : new int[] {LOW, -1, 16, HIGH}) {
            due("no such word", x.must(word, 0), UNKNOWN);
            due("UNKNOWN ahead of OUTSIDE", x.must(word, 16), UNKNOWN);
        }
        for (int as : new int[] {LOW, -6, -2, 16, HIGH}) {
            due("no such word", x.must(15, as), OUTSIDE);
        }
        due("refused changes nothing", x.told(35), 0);
    }

    private static void promise17Wrongs() {
        SaidAlready x = kept("aab=AAB", "ab=AA", "c=A", "c=C", "aab=ABA1");
        due("without musts", x.wrongs(), 0);
        x.must(0, 0);
        due("a must be A", x.wrongs(), 2 + 4);
        x.must(1, 1);
        due("b must be B", x.wrongs(), 2 + 4);
        x.must(1, 0);
        due("a and b must be A", x.wrongs(), 1 + 4 + 16);
        x.must(2, 0);
        due("c too", x.wrongs(), 1 + 8 + 16);
        x.must(0, -1);
        x.must(1, -1);
        x.must(2, -1);
        due("without musts again", x.wrongs(), 0);
        SaidAlready y = kept("p=P", "1=P", "p=1", "1=1");
        y.must(15, 15);
        due("the last word; numbers do not matter", y.wrongs(), 2 + 4);
        for (int n = 4; n < 12; n++) {
            keep(y, "p=O", -1);
        }
        due("twelve", y.wrongs(), 0xff6);
    }

    private static void promise18Goes() {
        SaidAlready x = kept("aab=AAA", "ab=B", "b=A", "c=AB");
        due("2 by 5, upper", x.goes(0, 0, 0), 2);
        due("2 by 5, lower", x.goes(0, 0, 1), 5);
        due("2 by 4 in lowest terms, upper", x.goes(0, 1, 0), 1);
        due("2 by 4 in lowest terms, lower", x.goes(0, 1, 1), 2);
        due("4 by 6 in lowest terms, upper", x.goes(1, 0, 0), 2);
        due("4 by 6 in lowest terms, lower", x.goes(1, 0, 1), 3);
        due("0 by 1: never together, upper", x.goes(0, 2, 0), 0);
        due("0 by 1: never together, lower", x.goes(0, 2, 1), 1);
        due("0 by 1: neither is there, upper", x.goes(9, 9, 0), 0);
        due("0 by 1: neither is there, lower", x.goes(9, 9, 1), 1);
        for (int word : new int[] {LOW, -1, 16, HIGH}) {
            due("no such word", x.goes(word, 0, 0), SaidAlready.LOST - 1);
            due("no such word", x.goes(0, word, 1), SaidAlready.LOST - 1);
            due("UNKNOWN ahead of OUTSIDE", x.goes(0, word, 2), SaidAlready.LOST - 1);
        }
        for (int part : new int[] {LOW, -1, 2, HIGH}) {
            due("no such part", x.goes(0, 0, part), SaidAlready.LOST - 2);
        }
        SaidAlready y = kept("p=P");
        due("1 by 1", y.goes(15, 15, 0), 1);
        due("1 by 1", y.goes(15, 15, 1), 1);
    }

    private static void promise19Learnt() {
        SaidAlready x = new SaidAlready();
        due("no pairs", x.learnt(0), NONE);
        keep(x, "ab=BA", -1);
        due("the first of the most", x.learnt(0), 0);
        keep(x, "b=A", -1);
        due("the most", x.learnt(0), 1);
        due("the most", x.learnt(1), 0);
        keep(x, "c=1", -1);
        due("numbers are no words", x.learnt(2), NONE);
        due("never said", x.learnt(15), NONE);
        keep(x, "p=P", -1);
        due("the last word", x.learnt(15), 15);
        for (int word : new int[] {LOW, -1, 16, HIGH}) {
            due("no such word", x.learnt(word), UNKNOWN);
        }
    }

    private static void promise20Otherwise() {
        SaidAlready x = kept("a=ABA1", "b=AA", "ba=BA", "c=A");
        due("otherwise", x.otherwise(0, 0, 15), 3);
        same("changed", second(x, 0), "PBP1");
        same("not in others", second(x, 1), "AA");
        same("changed", second(x, 2), "BP");
        due("the firsts stay", x.pair(0, 100), 'a');
        due("a word that is in no pair", x.otherwise(9, 0, 1), 0);
        due("a word that is not there", x.otherwise(0, 9, 1), 0);
        due("a word that becomes itself changes nothing", x.otherwise(0, 1, 1), 0);
        same("it stays", second(x, 0), "PBP1");
        due("what it made can be changed on", x.otherwise(0, 15, 1), 3);
        same("changed on", second(x, 0), "BBB1");
        for (int word : new int[] {LOW, -1, 16, HIGH}) {
            due("no such word", x.otherwise(word, 0, 1), UNKNOWN);
            due("no such word", x.otherwise(1, word, 1), UNKNOWN);
            due("no such word", x.otherwise(1, 0, word), UNKNOWN);
        }
        same("refused changes nothing", second(x, 1), "AA");
    }

    private static void promise21Clash() {
        SaidAlready x = new SaidAlready();
        due("no pairs", x.clash(), NONE);
        keep(x, "a=A", -1);
        keep(x, "b=A", -1);
        keep(x, "a=A", -1);
        due("the same twice is none", x.clash(), NONE);
        keep(x, "b=B", -1);
        due("1 and 3", x.clash(), 103);
        keep(x, "a=AA", -1);
        due("by the lesser number", x.clash(), 4);
        SaidAlready y = kept("a=A", "a=A", "a=B", "a=C");
        due("then by the other one", y.clash(), 2);
        SaidAlready z = kept("a=A", "b=A", "c=A", "d=A", "e=A", "f=A", "g=A", "h=A", "i=A", "j=A", "k1=A", "k1=B");
        due("the last two", z.clash(), 1011);
        z.otherwise(10, 1, 0);
        due("no longer", z.clash(), NONE);
    }

    private static void promise22Length() {
        SaidAlready x = new SaidAlready();
        due("the least", x.length(0, 1), 1);
        due("the greatest", x.length(0, 99), 2);
        due("of the other one", x.length(1, 5), 1);
        for (int n = 3; n <= 12; n++) {
            due("length", x.length(0, 7), n);
        }
        due("a 13th", x.length(0, 7), FULL);
        due("OUTSIDE ahead of FULL", x.length(0, 100), OUTSIDE);
        due("the other one is not full", x.length(1, 5), 2);
        for (int text : new int[] {LOW, -1, 2, HIGH}) {
            due("no such text", x.length(text, 5), OUTSIDE);
        }
        for (int v : new int[] {LOW, -1, 0, 100, HIGH}) {
            due("no such length", x.length(1, v), OUTSIDE);
        }
        due("refused changes nothing", x.told(3), 12);
        due("refused changes nothing", x.told(4), 2);
    }

    private static void promise23Lengths() {
        SaidAlready x = laid(new int[] {1, 2}, new int[] {3});
        due("both go", x.lengths(), 3);
        due("none there", x.lengths(), 0);
        due("gone", x.told(3), 0);
        due("gone", x.told(4), 0);
        due("laid of nothing", x.laid(-1), 0);
        due("from the start", x.length(1, 9), 1);
    }

    private static void promise24Laid() {
        SaidAlready x = new SaidAlready();
        due("nothing costs nothing", x.laid(-1), 0);
        due("in one way", x.laid(-2), 1);
        due("no steps", x.laid(-3), 0);
        int[][][] cases = {
            {{40}, {37}, {3, 1}},
            {{40}, {}, {70, 1}},
            {{}, {40}, {70, 1}},
            {{20, 20}, {41}, {11, 1}},
            {{41}, {20, 20}, {11, 1}},
            {{10, 40}, {40, 10}, {15, 1}},
            {{1}, {99}, {98, 1}},
            {{50, 3}, {3}, {60, 1}}};
        String[] steps = {"0", "1", "2", "3", "4", "5", "0", "3"};
        for (int i = 0; i < cases.length; i++) {
            SaidAlready y = laid(cases[i][0], cases[i][1]);
            due("cost of case " + i, y.laid(-1), cases[i][2][0]);
            due("ways of case " + i, y.laid(-2), cases[i][2][1]);
            same("steps of case " + i, steps(y), steps[i]);
        }
        due("laid(-4)", x.laid(-4), NONE);
        due("laid(LOW)", x.laid(LOW), NONE);
        due("laid(HIGH)", x.laid(HIGH), NONE);
        SaidAlready z = laid(new int[] {5}, new int[] {5});
        due("behind the last step", z.laid(1), NONE);
        due("laid leaves the lengths", z.lengths(), 2);
    }

    private static void promise24LaidInManyWays() {
        SaidAlready x = laid(new int[] {10, 10, 10}, new int[] {15, 15});
        due("cost", x.laid(-1), 20);
        due("ways: 0 3 and 3 0", x.laid(-2), 2);
        same("the first row by the steps' numbers", steps(x), "03");
        SaidAlready only = laid(new int[] {1, 1}, new int[] {});
        due("one to none, twice", only.laid(-1), 62);
        same("one to none, twice", steps(only), "11");
        int[] twelve = {9, 9, 9, 9, 9, 9, 9, 9, 9, 9, 9, 9};
        SaidAlready full = laid(twelve, twelve);
        due("twelve and twelve", full.laid(-1), 0);
        same("twelve and twelve", steps(full), "000000000000");
        SaidAlready far = laid(new int[] {9, 9, 9, 9, 9, 9, 9, 9, 9, 9, 9, 9}, new int[] {});
        due("all to none", far.laid(-3), 12);
        SaidAlready one = laid(twelve, new int[] {9, 9, 9, 9, 9, 9, 9, 9, 9, 9, 9});
        due("one more of the one: a 3 at any place", one.laid(-1), 19);
        due("ways", one.laid(-2), 11);
        same("the first row", steps(one), "00000000003");
    }

    private static void promise25And26Images() {
        SaidAlready x = kept("ab1=A1B");
        keep(x, "c=C", 0);
        write(x, "ab1");
        write(x, "c");
        x.rate(2, 44);
        x.must(3, 4);
        x.length(0, 10);
        x.length(1, 20);
        say(x, "xyz");
        due("image(-1)", x.image(-1), OUTSIDE);
        due("image(2)", x.image(2), OUTSIDE);
        due("image(HIGH)", x.image(HIGH), OUTSIDE);
        due("image(LOW)", x.image(LOW), OUTSIDE);
        due("STATE", x.restore(1), STATE);
        due("image(1)", x.image(1), 1);
        due("the other one was not kept", x.restore(0), STATE);
        changeAll(x);
        due("image(0)", x.image(0), 1);
        due("restore(1)", x.restore(1), 1);
        due("signs are not kept", x.told(0), 2);
        due("pairs", x.told(1), 2);
        due("sentences", x.told(2), 2);
        same("the first", first(x, 0), "ab1");
        same("the second", second(x, 0), "A1B");
        due("behind", x.pair(1, 2), 0);
        due("match", x.match(1, 1), 101);
        due("far", x.far(0, 1), 12);
        due("rate", x.told(12), 44);
        due("must", x.told(23), 4);
        due("lengths", x.told(3), 1);
        due("lengths", x.told(4), 1);
        due("laid", x.laid(-1), 10);
        due("restore(0)", x.restore(0), 1);
        due("pairs", x.told(1), 3);
        due("sentences", x.told(2), 3);
        same("said otherwise", second(x, 0), "P1B");
        due("rate", x.told(12), 55);
        due("must", x.told(23), NONE);
        due("lengths", x.told(3), 0);
        due("an image can be had twice", x.restore(1), 1);
        same("it did not change with the object", second(x, 0), "A1B");
        due("what was not there is not there", x.pair(2, 0), UNKNOWN);
        write(x, "g");
        due("restore(1)", x.restore(1), 1);
        due("nor by what came behind it", x.told(2), 2);
        due("restore(-1)", x.restore(-1), OUTSIDE);
        due("restore(2)", x.restore(2), OUTSIDE);
        due("restore(LOW)", x.restore(LOW), OUTSIDE);
        due("restore(HIGH)", x.restore(HIGH), OUTSIDE);
    }

    private static void promise26OtherThingsInTheSamePlaces() {
        SaidAlready x = new SaidAlready();
        x.image(0);
        keep(x, "a=A", -1);
        keep(x, "b1=B1", 0);
        write(x, "a");
        write(x, "b1");
        write(x, "b22");
        x.must(0, 0);
        x.rate(0, 7);
        x.length(0, 10);
        x.length(1, 20);
        x.image(1);
        x.restore(0);
        due("nothing was kept then", x.told(1) + x.told(2) + x.told(3) + x.told(4), 0);
        due("nor set", x.told(10), 1);
        due("nor set", x.told(20), NONE);
        keep(x, "ccc=CCC", -1);
        keep(x, "dddd=DD", -1);
        write(x, "dddd");
        write(x, "ccc");
        write(x, "ccc");
        x.length(0, 99);
        x.length(1, 98);
        x.restore(1);
        same("first", first(x, 0) + first(x, 1), "ab1");
        same("second", second(x, 0) + second(x, 1), "AB1");
        due("behind", x.pair(1, 2), 0);
        due("the texts are as they were", x.far(0, 1), 8);
        due("the texts are as they were", x.far(1, 2), 5);
        due("match", x.match(0, 0), 100);
        due("match", x.match(1, 1), 101);
        due("match", x.match(2, 0), 0);
        due("price", x.price(-1), 2 + 14 + 30);
        due("wrongs", x.wrongs(), 0);
        due("laid", x.laid(-1), 10);
        x.rate(1, 99);
        due("likes are as they were", x.order(-1), 10 + 14 + 30);
        write(x, "b22");
        x.rate(1, 0);
        due("and those behind them come anew", x.order(-1), 14 + 30);
    }

    private static void changeAll(SaidAlready x) {
        x.wipe();
        x.otherwise(0, 0, 15);
        keep(x, "d=D", 1);
        write(x, "ddd");
        x.rate(2, 55);
        x.must(3, -1);
        x.lengths();
        x.length(1, 3);
        say(x, "ab");
    }

    private static void promise27Told() {
        SaidAlready x = kept("a=A", "b=B");
        write(x, "a");
        write(x, "b");
        write(x, "c");
        say(x, "abcde");
        x.length(0, 1);
        x.length(0, 1);
        x.length(0, 1);
        x.length(0, 1);
        x.length(1, 1);
        due("signs", x.told(0), 5);
        due("pairs", x.told(1), 2);
        due("sentences", x.told(2), 3);
        due("lengths of one", x.told(3), 4);
        due("lengths of other", x.told(4), 1);
        for (int band = 0; band < 5; band++) {
            x.rate(band, 70 + band);
            due("rate", x.told(10 + band), 70 + band);
        }
        for (int word = 0; word < 16; word++) {
            x.must(word, 15 - word);
            due("must", x.told(20 + word), 15 - word);
        }
        for (int what : new int[] {LOW, -1, 5, 9, 15, 19, 36, HIGH}) {
            due("told(" + what + ")", x.told(what), OUTSIDE);
        }
    }
}
