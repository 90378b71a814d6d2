import java.util.Random;

/** All promises: many runs of calls by lots (of fixed seeds), each answer set beside the model's. */
public final class ModelTest {

    // An object is used for at most 512 calls; the most that one call() here makes is some 40.
    private static final int RUNS = 400, CALLS = 470;

    private final Random lots;
    private final BiteFirst x = new BiteFirst();
    private final Model m = new Model();
    private final String run;
    private final boolean tame;
    private int calls;

    private ModelTest(int seed) {
        lots = new Random(seed);
        run = "run " + seed + ": ";
        tame = seed % 4 != 0;
    }

    public static void main(String[] args) {
        for (int seed = 0; seed < RUNS; seed++) {
            ModelTest test = new ModelTest(seed);
            test.furnish();
            // Behind a wrong answer the two are apart: what follows tells nothing more.
            for (int lot = 0; lot < 2 * CALLS && test.calls < CALLS && Due.wrong() == 0; lot++) {
                test.call();
            }
            Due.isTrue("no more calls than an object is used for", test.calls <= 512);
        }
        Due.end("ModelTest");
    }

    private int upTo(int most) {
        return lots.nextInt(most + 1);
    }

    /** A number from least to most, now and then just outside, seldom far outside. */
    private int about(int least, int most) {
        int lot = lots.nextInt(tame ? 120 : 30);
        if (lot == 0) {
            return least - 1;
        }
        if (lot == 1) {
            return most + 1;
        }
        if (lot == 2) {
            return lots.nextInt();
        }
        if (lot == 3) {
            return lots.nextBoolean() ? Integer.MIN_VALUE : Integer.MAX_VALUE;
        }
        if (lot < 6) {
            return lots.nextBoolean() ? least : most;
        }
        return least + lots.nextInt(most - least + 1);
    }

    /** An eater, mostly one that is there. */
    private int who() {
        int n = m.count(0);
        return n == 0 || lots.nextInt(40) == 0 ? about(0, 4) : lots.nextInt(n);
    }

    private int which() {
        int n = m.count(1);
        return n == 0 || lots.nextInt(40) == 0 ? about(0, 5) : lots.nextInt(n);
    }

    private int jaw() {
        return lots.nextInt(3) == 0 ? about(1, 63) : 1 << upTo(5) | 1 << upTo(5);
    }

    private void due(String call, long got, long want) {
        calls++;
        Due.is(run + call, got, want);
    }

    private void furnish() {
        int eaters = upTo(5);
        for (int e = 0; e < eaters; e++) {
            int a = upTo(59);
            int b = 1 + upTo(62);
            due("eater", x.eater(a, b), m.eater(a, b));
        }
        int goods = upTo(6);
        for (int g = 0; g < goods; g++) {
            int a = upTo(9);
            int b = lots.nextInt(3) == 0 ? upTo(99) : upTo(12);
            due("good", x.good(a, b), m.good(a, b));
            for (int k = upTo(6); k > 0; k--) {
                int c = upTo(9);
                int v = lots.nextInt(3) == 0 ? upTo(99) : upTo(12);
                due("put", x.put(g, c, v), m.put(g, c, v));
            }
        }
    }

    private void call() {
        int a;
        int b;
        int c;
        int d;
        switch (lots.nextInt(52)) {
            case 0: a = about(0, 5); due("count " + a, x.count(a), m.count(a)); return;
            case 1: a = about(0, 99); due("set " + a, x.set(a), m.set(a)); return;
            case 2: case 3: texts(); return;
            case 4: strayFeed(); return;
            case 5: a = lots.nextInt(4) == 0 ? about(0, 5) : upTo(m.count(3) - 1); due("force " + a, x.force(a), m.force(a)); return;
            case 6: case 7: a = about(0, 2); b = who(); c = which(); d = about(0, 1099);
                due("asks " + a + " " + b + " " + c + " " + d, x.asks(a, b, c, d), m.asks(a, b, c, d)); return;
            case 8: if (lots.nextInt(4) != 0) { return; }
                a = about(0, 9); b = about(0, 99); due("good " + a + " " + b, x.good(a, b), m.good(a, b)); return;
            case 9: case 10: a = which(); b = about(0, 11); c = b == 10 ? about(0, 9) : b == 11 ? left() : about(0, 99);
                due("put " + a + " " + b + " " + c, x.put(a, b, c), m.put(a, b, c)); return;
            case 11: a = which(); b = about(0, 11); due("part " + a + " " + b, x.part(a, b), m.part(a, b)); return;
            case 12: if (lots.nextInt(4) != 0) { return; }
                a = about(0, 59); b = jaw(); due("eater " + a + " " + b, x.eater(a, b), m.eater(a, b)); return;
            case 13: a = who(); b = about(0, 4); due("told " + a + " " + b, x.told(a, b), m.told(a, b)); return;
            case 14: case 15: a = who(); b = about(0, 1); c = b == 0 ? jaw() : lots.nextInt(3) == 0 ? about(0, 9999) : about(0, 40);
                due("lend " + a + " " + b + " " + c, x.lend(a, b, c), m.lend(a, b, c)); return;
            case 16: a = who(); b = which(); due("shape " + a + " " + b, x.shape(a, b), m.shape(a, b)); return;
            case 17: case 18: a = who(); b = which(); c = about(0, 15); d = about(0, 2);
                due("mark " + a + " " + b + " " + c + " " + d, x.mark(a, b, c, d), m.mark(a, b, c, d)); return;
            case 19: case 20: a = who(); b = which(); c = about(0, 15);
                due("bite " + a + " " + b + " " + c, x.bite(a, b, c), m.bite(a, b, c)); return;
            case 21: case 22: a = who(); b = about(0, 1); due("best " + a + " " + b, x.best(a, b), m.best(a, b)); return;
            case 23: a = about(0, 1); if (lots.nextInt(3) == 0) { due("orderly " + a, x.orderly(a), m.orderly(a)); } return;
            case 24: case 25: a = who(); b = who(); c = about(1, 2); d = about(0, 1);
                due("duel " + a + " " + b + " " + c + " " + d, x.duel(a, b, c, d), m.duel(a, b, c, d)); return;
            case 26: a = who(); b = which(); due("fewest " + a + " " + b, x.fewest(a, b), m.fewest(a, b)); return;
            case 27: a = which(); b = about(0, 1); due("soonest " + a + " " + b, x.soonest(a, b), m.soonest(a, b)); return;
            case 28: case 29: a = who(); b = about(0, 1); due("hire " + a + " " + b, x.hire(a, b), m.hire(a, b)); return;
            case 30: a = which(); b = mark(a); due("whose " + a + " " + b, x.whose(a, b), m.whose(a, b)); return;
            case 31: case 32: a = who(); b = which(); c = mark(b); d = about(0, 3);
                due("kinds " + a + " " + b + " " + c + " " + d, x.kinds(a, b, c, d), m.kinds(a, b, c, d)); return;
            case 33: case 34: toldDay(); return;
            case 35: a = about(0, 3); due("judge " + a, x.judge(a), m.judge(a)); return;
            case 36: a = about(0, 3); b = about(0, 5); c = about(0, 2);
                due("ends " + a + " " + b + " " + c, x.ends(a, b, c), m.ends(a, b, c)); return;
            case 37: a = about(0, 3); due("laws " + a, x.laws(a), m.laws(a)); return;
            case 38: film(); return;
            case 39: case 40: a = about(0, 99999); b = about(0, 60); c = who(); d = about(0, 1);
                due("drawn " + a + " " + b + " " + c + " " + d, x.drawn(a, b, c, d), m.drawn(a, b, c, d)); return;
            case 41: odds(); return;
            case 42: if (lots.nextInt(4) != 0) { return; }
                due("image", x.image(), m.image()); return;
            case 43: if (lots.nextInt(4) != 0) { return; }
                due("back", x.back(), m.back()); return;
            case 44: a = about(0, 3); b = about(-1, 2); c = about(0, 40);
                due("sheet " + a + " " + b + " " + c, x.sheet(a, b, c), m.sheet(a, b, c)); return;
            case 45: case 46: a = about(0, 3); b = about(0, 39); c = lots.nextBoolean() ? upTo(15) : about(-300, 300);
                due("cell " + a + " " + b + " " + c, x.cell(a, b, c), m.cell(a, b, c)); return;
            case 47: case 48: copy(); return;
            case 49: eatersBy(); return;
            default: a = about(0, 10); b = about(0, 6); due("taken " + a + " " + b, x.taken(a, b), m.taken(a, b)); return;
        }
    }

    private int left() {
        return lots.nextInt(3) == 0 ? about(0, 1023) : upTo(1023) & upTo(1023);
    }

    /** A mark, mostly one that some bite leaves there. */
    private int mark(int g) {
        int bits = m.mark(who(), g, upTo(15), 0);
        return bits < 0 || lots.nextInt(3) == 0 ? about(1, 1023) : bits;
    }

    private void strayFeed() {
        int[] b = new int[5];
        for (int k = 0; k < 5; k++) {
            b[k] = about(0, 255);
        }
        int n = about(1, 5);
        due("feed", x.feed(n, b[0], b[1], b[2], b[3], b[4]), m.feed(n, b[0], b[1], b[2], b[3], b[4]));
        if (lots.nextInt(3) != 0) {
            due("text of strays", x.text(), m.text());
        }
    }

    private void texts() {
        String all = Sentences.text(lots);
        for (int k = 0; k < all.length(); k += 5) {
            int n = Math.min(5, all.length() - k);
            int[] b = new int[5];
            for (int j = 0; j < n; j++) {
                b[j] = all.charAt(k + j);
            }
            due("feed", x.feed(n, b[0], b[1], b[2], b[3], b[4]), m.feed(n, b[0], b[1], b[2], b[3], b[4]));
        }
        int t = x.text();
        due("text \"" + all + "\"", t, m.text());
        if (t > 0) {
            due("force " + t, x.force(t), m.force(t));
        }
    }

    private void toldDay() {
        int s = upTo(3);
        int n = 3 * upTo(6) + (lots.nextInt(10) == 0 ? 1 : 0);
        int sort = upTo(2);
        due("sheet", x.sheet(s, sort, n), m.sheet(s, sort, n));
        for (int k = 0; k < n; k++) {
            int v = k % 3 == 0 ? who() : k % 3 == 1 ? which() : about(0, 15);
            if (k % 3 == 2 && lots.nextBoolean()) {
                v = 6 + upTo(9);
            }
            due("cell", x.cell(s, k, v), m.cell(s, k, v));
        }
        due("judge", x.judge(s), m.judge(s));
        due("laws", x.laws(s), m.laws(s));
        for (int what = 0; what < 3; what++) {
            int of = what == 2 ? which() : who();
            due("ends " + what, x.ends(s, of, what), m.ends(s, of, what));
        }
    }

    private void film() {
        int s = about(0, 3);
        int n = about(0, 13);
        due("film " + s + " " + n, x.film(s, n), m.film(s, n));
        due("judge of it", x.judge(s), m.judge(s));
        for (int what = 0; what < 3; what++) {
            int of = what == 2 ? which() : who();
            due("ends of it " + what, x.ends(s, of, what), m.ends(s, of, what));
        }
    }

    private void odds() {
        int seed = about(0, 99959);
        int bitesSeeds = 100 * about(0, 60) + about(1, 40);
        int e = who();
        int want = lots.nextInt(3) == 0 ? about(0, 9999) : about(0, 200);
        int part = about(0, 1);
        due("odds " + seed + " " + bitesSeeds + " " + e + " " + want + " " + part,
                x.odds(seed, bitesSeeds, e, want, part), m.odds(seed, bitesSeeds, e, want, part));
    }

    private void copy() {
        int s = about(0, 3);
        int i = about(0, 12);
        int other = lots.nextInt(3) == 0 ? s : about(0, 3);
        int j = about(0, 12);
        int n = about(0, 12);
        due("copy " + s + " " + i + " " + other + " " + j + " " + n, x.copy(s, i, other, j, n), m.copy(s, i, other, j, n));
    }

    private void eatersBy() {
        int s = about(0, 3);
        int sort = about(0, 2);
        int at = about(0, 12);
        int n = about(0, 5);
        if (lots.nextInt(3) == 0) {
            due("eatersBy " + s + " " + sort + " " + at + " " + n, x.eatersBy(s, sort, at, n), m.eatersBy(s, sort, at, n));
        }
    }

    /** Texts by lots, some with faults. */
    private static final class Sentences {

        private static final String[] NAMES = {"cells", "worth", "soft", "more", "left", "day"};

        static String text(Random lots) {
            StringBuilder all = new StringBuilder();
            int size = lots.nextInt(4);
            all.append("pays ").append(e(lots, size)).append(blank(lots)).append(";");
            all.append("likes ").append(lots.nextBoolean() ? "worth" : e(lots, size)).append(";").append(blank(lots));
            all.append("waits ").append(lots.nextBoolean() ? "0" : e(lots, size)).append(";").append(blank(lots));
            for (int k = lots.nextInt(6) == 0 ? 1 + lots.nextInt(3) : 0; k > 0 && all.length() > 0; k--) {
                int at = lots.nextInt(all.length());
                String odd = " \n();+-*<=az09nd$A\t\u00e9";
                switch (lots.nextInt(4)) {
                    case 0: all.deleteCharAt(at); break;
                    case 1: all.insert(at, odd.charAt(lots.nextInt(odd.length()))); break;
                    case 2: all.setCharAt(at, odd.charAt(lots.nextInt(odd.length()))); break;
                    default: all.setLength(at);
                }
            }
            return all.toString();
        }

        private static String blank(Random lots) {
            return lots.nextInt(3) == 0 ? lots.nextBoolean() ? " " : "\n " : "";
        }

        private static String e(Random lots, int size) {
            if (size <= 0) {
                int lot = lots.nextInt(8);
                return lot < 4 ? NAMES[lots.nextInt(6)] : lot < 7 ? "" + lots.nextInt(30) : "" + lots.nextInt(10000);
            }
            String a = e(lots, size - 1 - lots.nextInt(2));
            String b = e(lots, size - 1 - lots.nextInt(2));
            switch (lots.nextInt(13)) {
                case 0: return a + " or " + b;
                case 1: return a + " and " + b;
                case 2: return "not " + a;
                case 3: return "(" + a + "<" + b + ")";
                case 4: return "(" + a + "=" + b + ")";
                case 5: return a + "<" + b;
                case 6: case 7: return a + "+" + b;
                case 8: return a + "-" + b;
                case 9: return a + " * " + b;
                case 10: return "-" + a;
                case 11: return "(" + a + " < " + b + ") * " + b;
                default: return "(" + a + ")";
            }
        }
    }
}
