import java.util.ArrayList;
import java.util.Arrays;
import java.util.HashMap;
import java.util.List;
import java.util.Map;

/**
 * The document read a second time, as plainly as can be and without regard to speed: texts instead
 * of rows, all ways tried where the program looks for the best one. Large texts, where trying all
 * ways takes too long, are searched from the front on (the program does it from the end).
 */
final class PlainModel {
    static final int NONE = -6, UNKNOWN = -1, OUTSIDE = -2, STATE = -3, FULL = -4, NO = -5;
    static final long LOST = -1000000000000000000L;

    private static final class World {
        List<String[]> pairs = new ArrayList<>();
        List<Integer> behind = new ArrayList<>();
        List<String> text = new ArrayList<>();
        int[] rates = {1, 2, 5, 9, 10};
        int[] musts = new int[16];
        List<List<Integer>> lengths = List.of(new ArrayList<>(), new ArrayList<>());

        World copy() {
            World w = new World();
            for (String[] p : pairs) {
                w.pairs.add(p.clone());
            }
            w.behind.addAll(behind);
            w.text.addAll(text);
            w.rates = rates.clone();
            w.musts = musts.clone();
            w.lengths.get(0).addAll(lengths.get(0));
            w.lengths.get(1).addAll(lengths.get(1));
            return w;
        }
    }

    private String pad = "";
    private World world = new World();
    private final World[] images = new World[2];

    PlainModel() {
        Arrays.fill(world.musts, NONE);
    }

    // ---- 1

    int say(int sign) {
        if (sign < 33 || sign > 126) {
            return OUTSIDE;
        }
        if (pad.length() == 30) {
            return FULL;
        }
        pad += (char) sign;
        return pad.length();
    }

    int wipe() {
        int n = pad.length();
        pad = "";
        return n;
    }

    /** The longest front of the PAD that can still become what it is to be tells the place. */
    int fault(int how) {
        if (how != 0 && how != 1) {
            return OUTSIDE;
        }
        String whole = how == 0 ? "[a-p0-9]{1,12}" : "[a-p0-9]{1,12}=[A-P0-9]{1,12}";
        String front = how == 0 ? "[a-p0-9]{0,12}" : "[a-p0-9]{0,12}|[a-p0-9]{1,12}=[A-P0-9]{0,12}";
        if (pad.matches(whole)) {
            return NONE;
        }
        for (int n = 1; n <= pad.length(); n++) {
            if (!pad.substring(0, n).matches(front)) {
                return n - 1;
            }
        }
        return pad.length();
    }

    int keep(int behind) {
        if (behind < -1 || behind >= world.pairs.size()) {
            return UNKNOWN;
        }
        if (world.pairs.size() == 12) {
            return FULL;
        }
        if (fault(1) != NONE) {
            return NO;
        }
        world.pairs.add(pad.split("="));
        world.behind.add(behind);
        pad = "";
        return world.pairs.size() - 1;
    }

    int write() {
        if (world.text.size() == 10) {
            return FULL;
        }
        if (fault(0) != NONE) {
            return NO;
        }
        world.text.add(pad);
        pad = "";
        return world.text.size() - 1;
    }

    private boolean noPair(int pair) {
        return pair < 0 || pair >= world.pairs.size();
    }

    private boolean noSentence(int sentence) {
        return sentence < 0 || sentence >= world.text.size();
    }

    int pair(int pair, int what) {
        if (noPair(pair)) {
            return UNKNOWN;
        }
        String[] p = world.pairs.get(pair);
        if (what == 0 || what == 1) {
            return p[what].length();
        }
        if (what == 2) {
            return world.behind.get(pair) == -1 ? NONE : world.behind.get(pair);
        }
        for (int second = 0; second < 2; second++) {
            for (int place = 0; place < p[second].length(); place++) {
                if (what == 100 + 100 * second + place) {
                    return p[second].charAt(place);
                }
            }
        }
        return OUTSIDE;
    }

    // ---- 2

    private static boolean number(char c) {
        return Character.isDigit(c);
    }

    // The same two sentences are held against one another again and again.
    private static final Map<String, Integer> FAR = new HashMap<>();

    static int farOf(String a, String b) {
        if (FAR.size() > 100000) {
            FAR.clear();
        }
        return FAR.computeIfAbsent(a + " " + b, both -> farAnew(a, b));
    }

    private static int farAnew(String a, String b) {
        int[][] d = new int[a.length() + 1][b.length() + 1];
        for (int i = 0; i <= a.length(); i++) {
            for (int j = 0; j <= b.length(); j++) {
                if (i == 0 || j == 0) {
                    d[i][j] = 4 * (i + j);
                    continue;
                }
                char x = a.charAt(i - 1);
                char y = b.charAt(j - 1);
                int put = x == y ? 0 : number(x) && number(y) ? 1 : 4;
                d[i][j] = Math.min(d[i - 1][j - 1] + put, 4 + Math.min(d[i - 1][j], d[i][j - 1]));
            }
        }
        return d[a.length()][b.length()];
    }

    static int likeOf(String a, String b) {
        return 100 - 25 * farOf(a, b) / Math.max(a.length(), b.length());
    }

    private int matchOf(int sentence, int pair) {
        int like = likeOf(world.text.get(sentence), world.pairs.get(pair)[0]);
        int behind = world.behind.get(pair);
        boolean same = like == 100 && behind != -1 && sentence != 0
                && world.text.get(sentence - 1).equals(world.pairs.get(behind)[0]);
        return same ? 101 : like;
    }

    private int foundFor(int sentence) {
        int best = NONE;
        for (int p = 0; p < world.pairs.size(); p++) {
            if (best == NONE || matchOf(sentence, p) >= matchOf(sentence, best)) {
                best = p;
            }
        }
        return best;
    }

    int far(int sentence, int other) {
        if (noSentence(sentence) || noSentence(other)) {
            return UNKNOWN;
        }
        return farOf(world.text.get(sentence), world.text.get(other));
    }

    int match(int sentence, int pair) {
        return noSentence(sentence) || noPair(pair) ? UNKNOWN : matchOf(sentence, pair);
    }

    int found(int sentence, int what) {
        if (noSentence(sentence)) {
            return UNKNOWN;
        }
        if (what != 0 && what != 1) {
            return OUTSIDE;
        }
        int found = foundFor(sentence);
        return found == NONE ? NONE : what == 0 ? found : matchOf(sentence, found);
    }

    int filled(int sentence, int i) {
        if (noSentence(sentence)) {
            return UNKNOWN;
        }
        int found = foundFor(sentence);
        if (found == NONE) {
            return NO;
        }
        String said = world.text.get(sentence);
        String[] p = world.pairs.get(found);
        if (!said.replaceAll("[0-9]", "#").equals(p[0].replaceAll("[0-9]", "#"))) {
            return NO;
        }
        StringBuilder out = new StringBuilder();
        for (char c : p[1].toCharArray()) {
            int at = number(c) ? p[0].indexOf(c) : -1;
            out.append(at < 0 ? c : said.charAt(at));
        }
        return i == -1 ? out.length() : i < 0 || i >= out.length() ? NONE : out.charAt(i);
    }

    // ---- 3

    private static int band(int like) {
        return like == 101 ? 0 : like == 100 ? 1 : like >= 85 ? 2 : like >= 60 ? 3 : 4;
    }

    private int bandFound(int sentence) {
        int found = foundFor(sentence);
        return found == NONE ? 4 : band(matchOf(sentence, found));
    }

    int rate(int band, int v) {
        if (band < 0 || band > 4 || v < 0 || v > 99) {
            return OUTSIDE;
        }
        int was = world.rates[band];
        world.rates[band] = v;
        return was;
    }

    int price(int sentence) {
        if (sentence == -1) {
            int sum = 0;
            for (int s = 0; s < world.text.size(); s++) {
                sum += price(s);
            }
            return sum;
        }
        if (noSentence(sentence)) {
            return UNKNOWN;
        }
        return world.text.get(sentence).length() * world.rates[bandFound(sentence)];
    }

    private int costBehind(List<Integer> done, int s) {
        int rate = world.rates[4];
        for (int p = 0; p < world.pairs.size(); p++) {
            rate = Math.min(rate, world.rates[band(matchOf(s, p))]);
        }
        for (int d : done) {
            rate = Math.min(rate, world.rates[band(likeOf(world.text.get(s), world.text.get(d)))]);
        }
        return rate * world.text.get(s).length();
    }

    private int leastPrice;
    private List<Integer> leastOrder;

    private void tryOrders(List<Integer> done, int price) {
        if (done.size() == world.text.size()) {
            if (leastOrder == null || price < leastPrice) {
                leastPrice = price;
                leastOrder = new ArrayList<>(done);
            }
            return;
        }
        for (int s = 0; s < world.text.size(); s++) {
            if (!done.contains(s)) {
                int more = costBehind(done, s);
                done.add(s);
                tryOrders(done, price + more);
                done.remove(done.size() - 1);
            }
        }
    }

    /** For each set the least price of doing it, and the first order of it with that price. */
    private void orderFromTheFront() {
        int n = world.text.size();
        int[] price = new int[1 << n];
        List<List<Integer>> orders = new ArrayList<>();
        orders.add(new ArrayList<>());
        for (int set = 1; set < 1 << n; set++) {
            List<Integer> best = null;
            for (int last = 0; last < n; last++) {
                if ((set >> last & 1) == 0) {
                    continue;
                }
                int before = set ^ 1 << last;
                int cost = price[before] + costBehind(orders.get(before), last);
                List<Integer> order = new ArrayList<>(orders.get(before));
                order.add(last);
                if (best == null || cost < price[set]
                        || cost == price[set] && ahead(order, best)) {
                    price[set] = cost;
                    best = order;
                }
            }
            orders.add(best);
        }
        leastPrice = price[(1 << n) - 1];
        leastOrder = orders.get((1 << n) - 1);
    }

    private static boolean ahead(List<Integer> a, List<Integer> b) {
        for (int i = 0; i < Math.min(a.size(), b.size()); i++) {
            if (!a.get(i).equals(b.get(i))) {
                return a.get(i) < b.get(i);
            }
        }
        return a.size() < b.size();
    }

    int order(int what) {
        leastOrder = null;
        if (world.text.size() <= 5) {
            tryOrders(new ArrayList<>(), 0);
        } else {
            orderFromTheFront();
        }
        return what == -1 ? leastPrice
                : what >= 0 && what < leastOrder.size() ? leastOrder.get(what) : NONE;
    }

    int kept() {
        int best = -1;
        for (int set = 0; set < 1 << world.pairs.size(); set++) {
            if ((best == -1 || Integer.bitCount(set) < Integer.bitCount(best)) && keepsBands(set)) {
                best = set;
            }
        }
        return best;
    }

    private boolean keepsBands(int set) {
        for (int s = 0; s < world.text.size(); s++) {
            int greatest = 0;
            for (int p = 0; p < world.pairs.size(); p++) {
                if ((set >> p & 1) == 1) {
                    greatest = Math.max(greatest, matchOf(s, p));
                }
            }
            if (band(greatest) != bandFound(s)) {
                return false;
            }
        }
        return true;
    }

    // ---- 4

    private static boolean noWord(int word) {
        return word < 0 || word > 15;
    }

    int must(int word, int as) {
        if (noWord(word)) {
            return UNKNOWN;
        }
        if (as != -1 && noWord(as)) {
            return OUTSIDE;
        }
        int was = world.musts[word];
        world.musts[word] = as == -1 ? NONE : as;
        return was;
    }

    int wrongs() {
        int bits = 0;
        for (int p = 0; p < world.pairs.size(); p++) {
            int[] due = new int[16];
            boolean[] asked = new boolean[16];
            for (int w = 0; w < 16; w++) {
                if (world.musts[w] != NONE) {
                    asked[world.musts[w]] = true;
                    due[world.musts[w]] += times(world.pairs.get(p)[0], 'a' + w);
                }
            }
            for (int w = 0; w < 16; w++) {
                if (asked[w] && due[w] != times(world.pairs.get(p)[1], 'A' + w)) {
                    bits |= 1 << p;
                }
            }
        }
        return bits;
    }

    private static int times(String s, int sign) {
        return (int) s.chars().filter(c -> c == sign).count();
    }

    private int[] fraction(int word, int with) {
        int ones = 0;
        int others = 0;
        int both = 0;
        for (String[] p : world.pairs) {
            boolean one = p[0].indexOf('a' + word) >= 0;
            boolean other = p[1].indexOf('A' + with) >= 0;
            ones += one ? 1 : 0;
            others += other ? 1 : 0;
            both += one && other ? 1 : 0;
        }
        if (both == 0) {
            return new int[] {0, 1};
        }
        int a = 2 * both;
        int b = ones + others;
        while (b != 0) {
            int r = a % b;
            a = b;
            b = r;
        }
        return new int[] {2 * both / a, (ones + others) / a};
    }

    long goes(int word, int with, int part) {
        if (noWord(word) || noWord(with)) {
            return LOST - 1;
        }
        return part != 0 && part != 1 ? LOST - 2 : fraction(word, with)[part];
    }

    int learnt(int word) {
        if (noWord(word)) {
            return UNKNOWN;
        }
        int best = NONE;
        double most = 0;
        for (int with = 0; with < 16; with++) {
            int[] f = fraction(word, with);
            double goes = (double) f[0] / f[1];
            if (goes > most + 1e-9) {
                most = goes;
                best = with;
            }
        }
        return best;
    }

    int otherwise(int word, int was, int becomes) {
        if (noWord(word) || noWord(was) || noWord(becomes)) {
            return UNKNOWN;
        }
        int changed = 0;
        for (String[] p : world.pairs) {
            if (p[0].indexOf('a' + word) >= 0) {
                String now = p[1].replace((char) ('A' + was), (char) ('A' + becomes));
                for (int i = 0; i < now.length(); i++) {
                    changed += now.charAt(i) != p[1].charAt(i) ? 1 : 0;
                }
                p[1] = now;
            }
        }
        return changed;
    }

    int clash() {
        for (int a = 0; a < world.pairs.size(); a++) {
            for (int b = a + 1; b < world.pairs.size(); b++) {
                String[] p = world.pairs.get(a);
                String[] q = world.pairs.get(b);
                if (p[0].equals(q[0]) && !p[1].equals(q[1])) {
                    return 100 * a + b;
                }
            }
        }
        return NONE;
    }

    // ---- 5

    int length(int text, int v) {
        if (text != 0 && text != 1 || v < 1 || v > 99) {
            return OUTSIDE;
        }
        List<Integer> l = world.lengths.get(text);
        if (l.size() == 12) {
            return FULL;
        }
        l.add(v);
        return l.size();
    }

    int lengths() {
        int n = world.lengths.get(0).size() + world.lengths.get(1).size();
        world.lengths.get(0).clear();
        world.lengths.get(1).clear();
        return n;
    }

    private static final int[][] STEPS = {{1, 1, 0}, {1, 0, 30}, {0, 1, 30}, {2, 1, 10}, {1, 2, 10}, {2, 2, 15}};
    private int leastCost;
    private long leastWays;
    private List<Integer> leastSteps;

    private int stepCost(int i, int j, int[] step) {
        int sum = 0;
        for (int k = i; k < i + step[0]; k++) {
            sum += world.lengths.get(0).get(k);
        }
        for (int k = j; k < j + step[1]; k++) {
            sum -= world.lengths.get(1).get(k);
        }
        return Math.abs(sum) + step[2];
    }

    private void tryLaying(int i, int j, int cost, List<Integer> steps) {
        int n = world.lengths.get(0).size();
        int m = world.lengths.get(1).size();
        if (i == n && j == m) {
            if (leastSteps == null || cost < leastCost) {
                leastCost = cost;
                leastWays = 0;
                leastSteps = new ArrayList<>(steps);
            }
            leastWays += cost == leastCost ? 1 : 0;
            return;
        }
        for (int s = 0; s < 6; s++) {
            int[] step = STEPS[s];
            if (i + step[0] <= n && j + step[1] <= m) {
                steps.add(s);
                tryLaying(i + step[0], j + step[1], cost + stepCost(i, j, step), steps);
                steps.remove(steps.size() - 1);
            }
        }
    }

    private void layFromTheFront() {
        int n = world.lengths.get(0).size();
        int m = world.lengths.get(1).size();
        int[][] cost = new int[n + 1][m + 1];
        long[][] ways = new long[n + 1][m + 1];
        List<List<List<Integer>>> rows = new ArrayList<>();
        ways[0][0] = 1;
        for (int i = 0; i <= n; i++) {
            rows.add(new ArrayList<>());
            for (int j = 0; j <= m; j++) {
                List<Integer> best = i + j == 0 ? new ArrayList<>() : null;
                for (int s = 0; s < 6; s++) {
                    int a = i - STEPS[s][0];
                    int b = j - STEPS[s][1];
                    if (a < 0 || b < 0) {
                        continue;
                    }
                    int c = cost[a][b] + stepCost(a, b, STEPS[s]);
                    List<Integer> row = new ArrayList<>(rows.get(a).get(b));
                    row.add(s);
                    if (best == null || c < cost[i][j]) {
                        cost[i][j] = c;
                        ways[i][j] = ways[a][b];
                        best = row;
                    } else if (c == cost[i][j]) {
                        ways[i][j] += ways[a][b];
                        best = ahead(row, best) ? row : best;
                    }
                }
                rows.get(i).add(best);
            }
        }
        leastCost = cost[n][m];
        leastWays = ways[n][m];
        leastSteps = rows.get(n).get(m);
    }

    long laid(int what) {
        leastSteps = null;
        if (world.lengths.get(0).size() + world.lengths.get(1).size() <= 9) {
            tryLaying(0, 0, 0, new ArrayList<>());
        } else {
            layFromTheFront();
        }
        return what == -1 ? leastCost : what == -2 ? leastWays : what == -3 ? leastSteps.size()
                : what >= 0 && what < leastSteps.size() ? leastSteps.get(what) : NONE;
    }

    int image(int n) {
        if (n != 0 && n != 1) {
            return OUTSIDE;
        }
        images[n] = world.copy();
        return 1;
    }

    int restore(int n) {
        if (n != 0 && n != 1) {
            return OUTSIDE;
        }
        if (images[n] == null) {
            return STATE;
        }
        world = images[n].copy();
        return 1;
    }

    int told(int what) {
        int[] told = new int[36];
        Arrays.fill(told, OUTSIDE);
        told[0] = pad.length();
        told[1] = world.pairs.size();
        told[2] = world.text.size();
        told[3] = world.lengths.get(0).size();
        told[4] = world.lengths.get(1).size();
        System.arraycopy(world.rates, 0, told, 10, 5);
        System.arraycopy(world.musts, 0, told, 20, 16);
        return what < 0 || what > 35 ? OUTSIDE : told[what];
    }
}
