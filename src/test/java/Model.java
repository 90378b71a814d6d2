import java.util.ArrayDeque;
import java.util.ArrayList;
import java.util.Arrays;
import java.util.List;
import java.util.Map;

/**
 * The document told once more, as plainly as can be and in another way than the class tells it:
 * days in thought are whole copies, texts are trees, all is tried out. ModelTest sets it beside the class.
 */
final class Model {

    static final int BAD = -2, STATE = -3, FULL = -4;
    static final long NO = -4611686018427387904L;

    /** What an image keeps, and kinds and MOREs, which never change. */
    private static final class World {
        List<int[]> worths = new ArrayList<>();
        List<Integer> softs = new ArrayList<>();
        List<Integer> lefts = new ArrayList<>();
        List<int[]> eaters = new ArrayList<>(); // kind, more, jaw, purse, had
        int day;
        int law;

        World copy() {
            World w = new World();
            worths.forEach(a -> w.worths.add(a.clone()));
            w.softs.addAll(softs);
            w.lefts.addAll(lefts);
            eaters.forEach(a -> w.eaters.add(a.clone()));
            w.day = day;
            w.law = law;
            return w;
        }
    }

    private interface Tree {
        int of(Map<String, Integer> names);
    }

    private static final class Fault extends Exception {
        private static final long serialVersionUID = 1;
        final int place;

        Fault(int place) {
            super(null, null, false, false);
            this.place = place;
        }
    }

    private World now = new World();
    private World kept = null;
    private final List<Tree[]> texts = new ArrayList<>();
    private final StringBuilder tape = new StringBuilder();
    private final int[][] sheets = new int[4][];
    private final int[] sorts = {-1, -1, -1, -1};

    Model() {
        tape.append("pays cells * 2 ; likes worth ; waits 0 ; ");
        text();
    }

    // ---- the day, the law

    int count(int what) {
        int[] all = {now.eaters.size(), now.worths.size(), now.day, texts.size(), now.law, tape.length()};
        return what < 0 || what > 5 ? BAD : all[what];
    }

    int set(int v) {
        if (v < 0 || v > 99) {
            return -7;
        }
        int was = now.day;
        now.day = v;
        return was;
    }

    int feed(int n, int a, int b, int c, int d, int e) {
        int[] all = {a, b, c, d, e};
        if (n < 1 || n > 5 || Arrays.stream(all).anyMatch(v -> v < 0 || v > 255)) {
            return BAD;
        }
        if (tape.length() + n > 160) {
            return FULL;
        }
        for (int k = 0; k < n; k++) {
            tape.append((char) all[k]);
        }
        return tape.length();
    }

    int text() {
        if (texts.size() == 6) {
            return FULL;
        }
        String all = tape.toString();
        tape.setLength(0);
        try {
            texts.add(new Grammar(all).text());
            return texts.size() - 1;
        } catch (Fault fault) {
            return -100 - fault.place;
        }
    }

    int force(int t) {
        if (t < 0 || t >= texts.size()) {
            return BAD;
        }
        int was = now.law;
        now.law = t;
        return was;
    }

    int asks(int part, int e, int g, int cellsWorth) {
        if (part < 0 || part > 2 || noEater(e) || noGood(g) || cellsWorth < 0 || cellsWorth > 1099) {
            return BAD;
        }
        return says(now, part, e, g, cellsWorth / 100, cellsWorth % 100);
    }

    // ---- goods, eaters

    int good(int softness, int worth) {
        if (softness < 0 || softness > 9 || worth < 0 || worth > 99) {
            return BAD;
        }
        if (now.worths.size() == 6) {
            return FULL;
        }
        int[] all = new int[10];
        Arrays.fill(all, worth);
        now.worths.add(all);
        now.softs.add(softness);
        now.lefts.add(1023);
        return now.worths.size() - 1;
    }

    int put(int g, int what, int v) {
        if (noGood(g)) {
            return -5;
        }
        if (what < 0 || what > 11 || v < 0 || v > (what < 10 ? 99 : what == 10 ? 9 : 1023)) {
            return -7;
        }
        int was = part(g, what);
        if (what < 10) {
            now.worths.get(g)[what] = v;
        } else {
            (what == 10 ? now.softs : now.lefts).set(g, v);
        }
        return was;
    }

    int part(int g, int what) {
        if (noGood(g)) {
            return -5;
        }
        if (what < 0 || what > 11) {
            return -7;
        }
        return what < 10 ? now.worths.get(g)[what] : (what == 10 ? now.softs : now.lefts).get(g);
    }

    int eater(int kindMore, int jaw) {
        if (kindMore < 0 || kindMore > 59 || jaw < 1 || jaw > 63) {
            return BAD;
        }
        if (now.eaters.size() == 5) {
            return FULL;
        }
        now.eaters.add(new int[] {kindMore / 10, kindMore % 10, jaw, 100, 0});
        return now.eaters.size() - 1;
    }

    int told(int e, int what) {
        if (noEater(e)) {
            return -5;
        }
        return what < 0 || what > 4 ? -7 : now.eaters.get(e)[what];
    }

    int lend(int e, int what, int v) {
        if (noEater(e)) {
            return -5;
        }
        if (what < 0 || what > 1 || what == 0 && (v < 1 || v > 63) || what == 1 && (v < 0 || v > 9999)) {
            return -7;
        }
        int was = now.eaters.get(e)[2 + what];
        now.eaters.get(e)[2 + what] = v;
        return was;
    }

    int shape(int e, int g) {
        return noEater(e) || noGood(g) ? -5 : shapeOf(now.eaters.get(e), now.softs.get(g));
    }

    // ---- bites

    int mark(int e, int g, int at, int what) {
        if (noEater(e) || noGood(g)) {
            return -5;
        }
        if (at < 0 || at > 15 || what < 0 || what > 2) {
            return -7;
        }
        return bite(now, e, g, at)[what];
    }

    int bite(int e, int g, int at) {
        if (noEater(e) || noGood(g)) {
            return -5;
        }
        if (at < 0 || at > 15) {
            return -7;
        }
        int[] it = bite(now, e, g, at);
        if (it[0] == 0) {
            return STATE;
        }
        if (it[1] > now.eaters.get(e)[3]) {
            return FULL;
        }
        done(now, e, g, it);
        return it[1];
    }

    int best(int e, int what) {
        if (noEater(e)) {
            return -5;
        }
        return what < 0 || what > 1 ? -7 : bestOf(now, e)[what];
    }

    int orderly(int what) {
        if (what < 0 || what > 1) {
            return BAD;
        }
        int n = now.eaters.size();
        int[] most = {-1, 0};
        int first = 0;
        int last = 0;
        for (int e = 0; e < n; e++) {
            first = 10 * first + e + 1;
            last = 10 * last + n - e;
        }
        for (int digits = first; n > 0 && digits <= last; digits++) {
            String order = Integer.toString(digits);
            boolean all = order.length() == n;
            for (int e = 1; e <= n; e++) {
                all &= order.indexOf('0' + e) >= 0;
            }
            if (!all) {
                continue;
            }
            World w = now.copy();
            int gains = 0;
            for (int k = 0; k < n; k++) {
                int e = order.charAt(k) - '1';
                int[] best = bestOf(w, e);
                if (best[0] >= 0) {
                    done(w, e, best[0] / 100, bite(w, e, best[0] / 100, best[0] % 100));
                    gains += best[1];
                }
            }
            if (most[0] < 0 || gains > most[1]) {
                most = new int[] {digits, gains};
            }
        }
        return most[what];
    }

    int duel(int me, int you, int turns, int what) {
        if (noEater(me) || noEater(you) || me == you) {
            return -1000005;
        }
        if (turns < 1 || turns > 2 || what < 0 || what > 1) {
            return -1000007;
        }
        return duelOf(now, me, you, turns)[what];
    }

    private int[] duelOf(World w, int one, int other, int n) {
        if (n == 0) {
            return new int[] {0, -1};
        }
        int[] most = null;
        for (int g = 0; g < w.worths.size(); g++) {
            for (int at = 0; at < 16; at++) {
                int[] it = bite(w, one, g, at);
                if (canBe(w, one, it)) {
                    World behind = w.copy();
                    done(behind, one, g, it);
                    int comesTo = it[2] - it[1] - duelOf(behind, other, one, n - 1)[0];
                    if (most == null || comesTo > most[0]) {
                        most = new int[] {comesTo, 100 * g + at};
                    }
                }
            }
        }
        return most != null ? most : new int[] {-duelOf(w, other, one, n - 1)[0], -1};
    }

    int fewest(int e, int g) {
        return noEater(e) || noGood(g) ? -5 : fewestOf(shape(e, g), now.lefts.get(g));
    }

    private static int fewestOf(int shape, int left) {
        int[] steps = new int[1024];
        Arrays.fill(steps, -1);
        steps[left] = 0;
        ArrayDeque<Integer> next = new ArrayDeque<>(List.of(left));
        while (!next.isEmpty()) {
            int cells = next.remove();
            for (int at = 0; at < 16; at++) {
                int behind = cells & ~markOf(shape, cells, at);
                if (steps[behind] < 0) {
                    steps[behind] = steps[cells] + 1;
                    next.add(behind);
                }
            }
        }
        return steps[0];
    }

    int soonest(int g, int what) {
        if (noGood(g)) {
            return -5;
        }
        if (what < 0 || what > 1) {
            return -7;
        }
        int[] found = {-1, -1};
        for (int e = now.eaters.size() - 1; e >= 0; e--) {
            int n = fewest(e, g);
            if (n >= 0 && (found[0] < 0 || n <= found[1])) {
                found = new int[] {e, n};
            }
        }
        return found[what];
    }

    int hire(int e, int what) {
        if (noEater(e)) {
            return -5;
        }
        if (what < 0 || what > 1) {
            return -7;
        }
        int[] found = {-1, bestOf(now, e)[1]};
        for (int teeth = 1; teeth <= 5; teeth++) {
            World w = now.copy();
            w.eaters.get(e)[0] = 5;
            w.eaters.get(e)[1] = (teeth - 1) * 2;
            int gain = bestOf(w, e)[1];
            if (gain > found[1]) {
                found = new int[] {teeth, gain};
            }
        }
        return found[what];
    }

    // ---- marks

    int whose(int g, int mark) {
        if (noGood(g)) {
            return -5;
        }
        if (noMark(g, mark)) {
            return -7;
        }
        int bits = 0;
        for (int e = 0; e < now.eaters.size(); e++) {
            bits |= has(now.eaters.get(e), g, mark) ? 1 << e : 0;
        }
        return bits;
    }

    int kinds(int e, int g, int mark, int sort) {
        if (noEater(e)) {
            return -6;
        }
        if (noGood(g)) {
            return -5;
        }
        if (noMark(g, mark) || sort < 0 || sort > 3) {
            return -7;
        }
        int[] span = {6, 10, 64, 64};
        int bits = 0;
        int jaws = 0;
        int least = -1;
        for (int v = sort < 2 ? 0 : 1; v < span[sort]; v++) {
            int[] one = now.eaters.get(e).clone();
            one[Math.min(sort, 2)] = v;
            if (has(one, g, mark)) {
                bits |= sort < 2 ? 1 << v : 0;
                jaws++;
                least = least < 0 ? v : least;
            }
        }
        return sort < 2 ? bits : sort == 2 ? jaws : least;
    }

    private boolean has(int[] eater, int g, int mark) {
        for (int at = 0; at < 16; at++) {
            if (markOf(shapeOf(eater, now.softs.get(g)), now.lefts.get(g), at) == mark) {
                return true;
            }
        }
        return false;
    }

    private boolean noMark(int g, int mark) {
        return mark < 1 || mark > 1023 || (mark & now.lefts.get(g)) != mark;
    }

    // ---- told days

    private int noDay(int s) {
        if (s < 0 || s > 3) {
            return BAD;
        }
        if (sheets[s] == null) {
            return -11;
        }
        boolean bad = sheets[s].length % 3 != 0;
        for (int k = 0; k < sheets[s].length; k++) {
            int v = sheets[s][k];
            bad |= k % 3 == 0 && noEater(v) || k % 3 == 1 && noGood(v) || k % 3 == 2 && (v < 0 || v > 15);
        }
        return bad ? BAD : 0;
    }

    private int day(World w, int s) {
        for (int k = 0; k < sheets[s].length / 3; k++) {
            int[] row = Arrays.copyOfRange(sheets[s], 3 * k, 3 * k + 3);
            int[] it = bite(w, row[0], row[1], row[2]);
            if (!canBe(w, row[0], it)) {
                return k;
            }
            done(w, row[0], row[1], it);
        }
        return -1;
    }

    int judge(int s) {
        return noDay(s) != 0 ? noDay(s) : day(now.copy(), s);
    }

    int ends(int s, int of, int what) {
        if (noDay(s) != 0) {
            return noDay(s);
        }
        if (what < 0 || what > 2) {
            return -7;
        }
        if (what == 2 ? noGood(of) : noEater(of)) {
            return -5;
        }
        World w = now.copy();
        day(w, s);
        return what == 2 ? w.lefts.get(of) : w.eaters.get(of)[4 - what];
    }

    int laws(int s) {
        if (noDay(s) != 0) {
            return noDay(s);
        }
        int bits = 0;
        for (int t = 0; t < texts.size(); t++) {
            World w = now.copy();
            w.law = t;
            bits |= day(w, s) == -1 ? 1 << t : 0;
        }
        return bits;
    }

    int film(int s, int n) {
        if (s < 0 || s > 3 || n < 0 || n > 13) {
            return BAD;
        }
        List<Integer> all = new ArrayList<>();
        World w = now.copy();
        for (int k = 0; k < n && !w.eaters.isEmpty(); k++) {
            int e = k % w.eaters.size();
            int best = bestOf(w, e)[0];
            if (best >= 0) {
                done(w, e, best / 100, bite(w, e, best / 100, best % 100));
                all.addAll(List.of(e, best / 100, best % 100));
            }
        }
        sorts[s] = 0;
        sheets[s] = all.stream().mapToInt(v -> v).toArray();
        return all.size() / 3;
    }

    // ---- days by lots

    private World lots(int seed, int n) {
        World w = now.copy();
        long lot = seed + 1;
        for (int k = 0; k < n; k++) {
            lot = lot * 48271 % 2147483647;
            int e = (int) (lot % w.eaters.size());
            int g = (int) (lot / 8 % w.worths.size());
            int[] it = bite(w, e, g, (int) (lot / 64 % 16));
            if (canBe(w, e, it)) {
                done(w, e, g, it);
            }
        }
        return w;
    }

    int drawn(int seed, int n, int e, int what) {
        if (noEater(e)) {
            return -5;
        }
        if (seed < 0 || seed > 99999 || n < 0 || n > 60 || what < 0 || what > 1) {
            return -7;
        }
        return now.worths.isEmpty() ? STATE : lots(seed, n).eaters.get(e)[4 - what];
    }

    long odds(int seed, int bitesSeeds, int e, int want, int part) {
        if (seed < 0 || seed > 99999 || bitesSeeds < 0 || bitesSeeds / 100 > 60 || bitesSeeds % 100 < 1
                || bitesSeeds % 100 > 40 || noEater(e) || want < 0 || want > 9999 || part < 0 || part > 1
                || now.worths.isEmpty()) {
            return NO;
        }
        int seeds = bitesSeeds % 100;
        int above = 0;
        for (int k = 0; k < seeds; k++) {
            above += lots(seed + k, bitesSeeds / 100).eaters.get(e)[4] >= want ? 1 : 0;
        }
        int a = above;
        int b = seeds;
        while (b != 0) {
            int rest = a % b;
            a = b;
            b = rest;
        }
        return (part == 0 ? above : seeds) / a;
    }

    int image() {
        kept = now.copy();
        return now.eaters.size();
    }

    int back() {
        if (kept == null) {
            return STATE;
        }
        now = kept.copy();
        return now.eaters.size();
    }

    // ---- the host

    int sheet(int s, int sort, int n) {
        if (s < 0 || s > 3 || sort < -1 || sort > 2 || sort >= 0 && n > 40) {
            return BAD;
        }
        if (sort >= 0 && n < 0) {
            return -14;
        }
        sorts[s] = sort;
        sheets[s] = sort < 0 ? null : new int[n];
        return 1;
    }

    int cell(int s, int i, int v) {
        if (s < 0 || s > 3) {
            return BAD;
        }
        if (sheets[s] == null) {
            return -11;
        }
        if (i < 0 || i >= sheets[s].length) {
            return -12;
        }
        int[] cut = {(byte) v, (short) v, v};
        sheets[s][i] = cut[sorts[s]];
        return 1;
    }

    int copy(int s, int i, int other, int j, int n) {
        if (s < 0 || s > 3 || other < 0 || other > 3) {
            return BAD;
        }
        if (sheets[s] == null || sheets[other] == null) {
            return -11;
        }
        if (sorts[s] != sorts[other]) {
            return -13;
        }
        if (i < 0 || j < 0 || n < 0 || (long) i + n > sheets[s].length || (long) j + n > sheets[other].length) {
            return -12;
        }
        int[] were = sheets[s].clone();
        for (int k = 0; k < n; k++) {
            sheets[other][j + k] = were[i + k];
        }
        return n;
    }

    int eatersBy(int s, int sort, int at, int n) {
        if (s < 0 || s > 3 || sort < 0 || sort > 2 || n < 0 || n > 5) {
            return BAD;
        }
        if (sheets[s] == null) {
            return -11;
        }
        if (sorts[s] != sort) {
            return -13;
        }
        int came = 0;
        try {
            for (int k = 0; k < n; k++) {
                came += eater(sheets[s][at + 2 * k], sheets[s][at + 2 * k + 1]) >= 0 ? 1 : 0;
            }
        } catch (ArrayIndexOutOfBoundsException outside) {
            return -12;
        }
        return came;
    }

    int taken(int i, int kind) {
        if (kind < 0 || kind > 6) {
            return BAD;
        }
        if (i < 0 || i > 10) {
            return -12;
        }
        if (i < 5 ? noEater(i) : noGood(i - 5)) {
            return -11;
        }
        if (i >= 5) {
            return kind == 6 ? now.lefts.get(i - 5) : -13;
        }
        int[] above = {-1, 0, 0, 1, 2, 0};
        for (int k = now.eaters.get(i)[0]; k >= 0; k = above[k]) {
            if (k == kind) {
                return i;
            }
        }
        return -13;
    }

    // ---- terms

    private boolean noEater(int e) {
        return e < 0 || e >= now.eaters.size();
    }

    private boolean noGood(int g) {
        return g < 0 || g >= now.worths.size();
    }

    private static int shapeOf(int[] eater, int soft) {
        int jaw = eater[2];
        int wide = 0;
        for (int b = 0; b < 6; b++) {
            wide |= (jaw >> b & 1) == 1 ? 3 << b : 0;
        }
        int[] all = {jaw, wide, soft < 5 ? 0 : jaw, Integer.lowestOneBit(wide), soft < 5 ? 0 : jaw,
            0b11111 >> (4 - eater[1] / 2)};
        return all[eater[0]];
    }

    private static int markOf(int shape, int left, int at) {
        int bits = 0;
        for (int c = 0; c < 10; c++) {
            int bit = c - at + 6;
            if ((left >> c & 1) == 1 && bit >= 0 && (shape >> bit & 1) == 1) {
                bits |= 1 << c;
            }
        }
        return bits;
    }

    private int says(World w, int part, int e, int g, int cells, int worth) {
        int v = texts.get(w.law)[part].of(Map.of("cells", cells, "worth", worth, "soft", w.softs.get(g),
                "more", w.eaters.get(e)[1], "left", Integer.bitCount(w.lefts.get(g)), "day", w.day));
        int most = part == 1 ? 99 : 999;
        return v < 0 ? 0 : v > most ? most : v;
    }

    /** The mark, what it costs, what it is worth, from what gain on one doesn't wait. */
    private int[] bite(World w, int e, int g, int at) {
        int[] eater = w.eaters.get(e);
        int soft = w.softs.get(g);
        int bits = markOf(shapeOf(eater, soft), w.lefts.get(g), at);
        int cells = Integer.bitCount(bits);
        int together = 0;
        int worth = 0;
        for (int c = 0; c < 10; c++) {
            if ((bits >> c & 1) == 1) {
                int its = w.worths.get(g)[c];
                together += its;
                int likes = says(w, 1, e, g, cells, its);
                worth += eater[0] == 3 ? likes + eater[1] : eater[0] == 4 ? likes + likes : likes;
            }
        }
        int pays = says(w, 0, e, g, cells, together);
        int toothless = soft > 6 ? 0 : pays;
        int[] costs = {pays, pays, toothless, pays, toothless + eater[1] / 3, pays + 3};
        return new int[] {bits, costs[eater[0]], worth, says(w, 2, e, g, cells, together)};
    }

    private static boolean canBe(World w, int e, int[] it) {
        return it[0] != 0 && it[1] <= w.eaters.get(e)[3];
    }

    private static void done(World w, int e, int g, int[] it) {
        w.eaters.get(e)[3] -= it[1];
        w.eaters.get(e)[4] = Math.min(9999, w.eaters.get(e)[4] + it[2]);
        w.lefts.set(g, w.lefts.get(g) & ~it[0]);
    }

    private int[] bestOf(World w, int e) {
        int[] most = {-1, 0};
        for (int g = 0; g < w.worths.size(); g++) {
            for (int at = 0; at < 16; at++) {
                int[] it = bite(w, e, g, at);
                int gain = it[2] - it[1];
                if (canBe(w, e, it) && gain >= it[3] && (most[0] < 0 || gain > most[1])) {
                    most = new int[] {100 * g + at, gain};
                }
            }
        }
        return most;
    }

    /** A text's tokens first, then its parts, level by level. */
    private static final class Grammar {
        private final List<String> tokens = new ArrayList<>();
        private final List<Integer> places = new ArrayList<>();
        private int k = 0;
        private int open = 0;

        Grammar(String all) {
            int at = 0;
            while (at < all.length()) {
                String rest = all.substring(at);
                String found = first(rest, "[ \n]+", "[a-z]+", "[0-9]+", "[();+*<=-]", "(?s).");
                if (!found.isBlank() || !found.matches("[ \n]+")) {
                    tokens.add(found.matches("[0-9]{5,}") ? "?" : found);
                    places.add(at);
                }
                at += found.length();
            }
            tokens.add("");
            places.add(all.length());
        }

        private static String first(String rest, String... patterns) {
            for (String pattern : patterns) {
                java.util.regex.Matcher m = java.util.regex.Pattern.compile(pattern).matcher(rest);
                if (m.lookingAt()) {
                    return m.group();
                }
            }
            throw new IllegalStateException(rest);
        }

        private boolean here(String... any) {
            return Arrays.asList(any).contains(tokens.get(k));
        }

        private void take(String token) throws Fault {
            if (!here(token)) {
                throw new Fault(places.get(k));
            }
            k++;
        }

        Tree[] text() throws Fault {
            Tree[] parts = new Tree[3];
            String[] keys = {"pays", "likes", "waits"};
            for (int p = 0; p < 3; p++) {
                take(keys[p]);
                parts[p] = either();
                take(";");
            }
            take("");
            return parts;
        }

        private Tree either() throws Fault {
            Tree all = both();
            while (here("or")) {
                k++;
                Tree a = all;
                Tree b = both();
                all = n -> a.of(n) != 0 | b.of(n) != 0 ? 1 : 0;
            }
            return all;
        }

        private Tree both() throws Fault {
            Tree all = not();
            while (here("and")) {
                k++;
                Tree a = all;
                Tree b = not();
                all = n -> a.of(n) != 0 & b.of(n) != 0 ? 1 : 0;
            }
            return all;
        }

        private void opens() throws Fault {
            if (open == 5) {
                throw new Fault(places.get(k));
            }
            open++;
            k++;
        }

        private Tree not() throws Fault {
            if (here("not")) {
                opens();
                Tree a = not();
                open--;
                return n -> a.of(n) == 0 ? 1 : 0;
            }
            Tree a = sum();
            if (here("<")) {
                k++;
                Tree b = sum();
                return n -> a.of(n) < b.of(n) ? 1 : 0;
            }
            if (here("=")) {
                k++;
                Tree b = sum();
                return n -> a.of(n) == b.of(n) ? 1 : 0;
            }
            return a;
        }

        private Tree sum() throws Fault {
            Tree all = term();
            while (here("+", "-")) {
                boolean plus = here("+");
                k++;
                Tree a = all;
                Tree b = term();
                all = n -> plus ? a.of(n) + b.of(n) : a.of(n) - b.of(n);
            }
            return all;
        }

        private Tree term() throws Fault {
            Tree all = one();
            while (here("*")) {
                k++;
                Tree a = all;
                Tree b = one();
                all = n -> a.of(n) * b.of(n);
            }
            return all;
        }

        private Tree one() throws Fault {
            String token = tokens.get(k);
            if (here("-")) {
                opens();
                Tree a = one();
                open--;
                return n -> -a.of(n);
            }
            if (here("(")) {
                opens();
                Tree a = either();
                take(")");
                open--;
                return a;
            }
            if (here("cells", "worth", "soft", "more", "left", "day")) {
                k++;
                return n -> n.get(token);
            }
            if (token.matches("[0-9]+")) {
                k++;
                int v = Integer.parseInt(token);
                return n -> v;
            }
            throw new Fault(places.get(k));
        }
    }
}
