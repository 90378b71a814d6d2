/** Promises 29 to 37: days by lots, images, the host's sheets. */
public final class LotsAndHostTest {

    private static final int BAD = -2, STATE = -3;

    public static void main(String[] args) {
        draws();
        drawsByHand();
        odds();
        images();
        backs();
        sheets();
        cells();
        copies();
        eatersBySheets();
        taken();
        Due.end("LotsAndHostTest");
    }

    /** One eater of one bit, one good of ten cells, all worth 1 more than the one ahead. */
    private static BiteFirst alone() {
        BiteFirst x = new BiteFirst();
        x.eater(0, 1);
        x.good(0, 0);
        for (int c = 0; c < 10; c++) {
            x.put(0, c, c + 1);
        }
        return x;
    }

    private static void draws() {
        BiteFirst x = alone();
        // SEED 3: 193084 by 64 is 3016, which is 8 modulo 16: the cell 2. SEED 0: 48271, place 2: none.
        Due.is("P29 no lots", x.drawn(3, 0, 0, 0), 0);
        Due.is("P29 no lots", x.drawn(3, 0, 0, 1), 100);
        Due.is("P29 seed 3", x.drawn(3, 1, 0, 0), 3);
        Due.is("P29 seed 3", x.drawn(3, 1, 0, 1), 98);
        Due.is("P29 seed 0", x.drawn(0, 1, 0, 0), 0);
        Due.is("P29 seed 0", x.drawn(0, 1, 0, 1), 100);
        Due.is("P29 in thought", x.part(0, 11), 1023);
        Due.is("P29 in thought", x.told(0, 3), 100);
        x.lend(0, 1, 1);
        Due.is("P29 too dear", x.drawn(3, 1, 0, 0), 0);
        Due.is("P29 too dear", x.drawn(3, 1, 0, 1), 1);
        // SEED 99999: 100000 times 48271 is 4827100000, modulo 2147483647 532132706.
        Due.law(x, "0", "worth", "999");
        Due.is("P29 the largest seed", x.drawn(99999, 1, 0, 0), worthAt((int) (532132706L / 64 % 16)));
        Due.is("P29 for nothing", x.drawn(3, 1, 0, 0), 3);
    }

    private static int worthAt(int place) {
        return place < 6 ? 0 : place - 5;
    }

    private static void drawsByHand() {
        for (int seed : new int[] {0, 1, 2, 77, 4242, 99999}) {
            BiteFirst x = alone();
            x.eater(10, 5);
            x.eater(0, 63);
            x.good(3, 7);
            x.good(9, 99);
            x.good(9, 50);
            BiteFirst y = alone();
            y.eater(10, 5);
            y.eater(0, 63);
            y.good(3, 7);
            y.good(9, 99);
            y.good(9, 50);
            long lot = seed + 1;
            for (int n = 1; n <= 60; n++) {
                lot = lot * 48271 % 2147483647;
                y.bite((int) (lot % 3), (int) (lot / 8 % 4), (int) (lot / 64 % 16));
                for (int e = 0; e < 3; e++) {
                    if (n % 6 == 0) {
                        Due.is("P29 had by " + n + " lots of " + seed, x.drawn(seed, n, e, 0), y.told(e, 4));
                        Due.is("P29 purse by " + n + " lots of " + seed, x.drawn(seed, n, e, 1), y.told(e, 3));
                    }
                }
            }
        }
    }

    private static void odds() {
        for (int seeds = 1; seeds <= 40; seeds += 3) {
            BiteFirst x = alone();
            for (int want = 0; want < 12; want += 4) {
                int lots = seeds + want;
                int above = 0;
                for (int seed = 7; seed < 7 + seeds; seed++) {
                    above += x.drawn(seed, lots, 0, 0) >= want ? 1 : 0;
                }
                int d = seeds;
                while (above % d != 0 || seeds % d != 0) {
                    d--;
                }
                Due.is("P30 above", x.odds(7, 100 * lots + seeds, 0, want, 0), above / d);
                Due.is("P30 below", x.odds(7, 100 * lots + seeds, 0, want, 1), seeds / d);
            }
        }
        BiteFirst x = alone();
        x.eater(0, 0b111);
        Due.is("P30 all", x.odds(7, 6040, 1, 0, 0), 1);
        Due.is("P30 all", x.odds(7, 6040, 1, 0, 1), 1);
        Due.is("P30 none", x.odds(7, 6040, 1, 9999, 0), 0);
        Due.is("P30 none", x.odds(7, 6040, 1, 9999, 1), 1);
        Due.is("P30 no lots", x.odds(99999, 1, 0, 1, 0), 0);
        Due.is("P30 no lots", x.odds(99999, 40, 0, 0, 1), 1);
        // SEED 1: place 4; 2: 144813 by 64 is 2262, place 6: the cell 0; 3: the cell 2.
        BiteFirst y = alone();
        Due.is("P30 2 of 3", y.odds(1, 103, 0, 1, 0), 2);
        Due.is("P30 2 of 3", y.odds(1, 103, 0, 1, 1), 3);
        Due.is("P30 1 of 3", y.odds(1, 103, 0, 3, 0), 1);
        Due.is("P30 0 of 3", y.odds(1, 103, 0, 4, 0), 0);
        Due.is("P30 in thought", x.part(0, 11), 1023);
    }

    private static void images() {
        BiteFirst x = new BiteFirst();
        Due.is("P32 none", x.back(), STATE);
        Due.is("P31 nobody", x.image(), 0);
        x.eater(0, 1);
        x.eater(0, 1);
        Due.is("P31 two", x.image(), 2);
        x.eater(0, 1);
        Due.is("P32 two", x.back(), 2);
        Due.is("P32 the third is none", x.told(2, 0), -5);
        Due.is("P32 two are there", x.count(0), 2);
        Due.is("P11 another third", x.eater(47, 9), 2);
        Due.is("P12 its kind", x.told(2, 0), 4);
        Due.is("P12 its purse", x.told(2, 3), 100);
        x.good(9, 7);
        x.bite(2, 0, 6);
        x.put(0, 3, 1);
        Due.is("P12 it had", x.told(2, 4), 28);
        Due.is("P32 two again", x.back(), 2);
        Due.is("P8 another good", x.good(1, 8), 0);
        Due.is("P10 its worth", x.part(0, 3), 8);
        Due.is("P10 its left", x.part(0, 11), 1023);
        Due.is("P11 a third again", x.eater(0, 1), 2);
        Due.is("P12 it had nothing", x.told(2, 4), 0);
        Due.is("P12 it paid nothing", x.told(2, 3), 100);
        Due.is("P31 three", x.image(), 3);
        Due.is("P32 three", x.back(), 3);
    }

    private static void backs() {
        BiteFirst x = alone();
        Due.text(x, "pays 1; likes 2; waits 3;");
        x.bite(0, 0, 6);
        x.set(5);
        x.image();
        for (int round = 0; round < 2; round++) {
            x.set(6);
            x.force(1);
            Due.text(x, "pays 1; likes 2; waits 4;");
            x.lend(0, 0, 63);
            x.lend(0, 1, 1000);
            x.bite(0, 0, 9);
            x.put(0, 9, 99);
            x.put(0, 10, 9);
            x.put(0, 11, 0b100);
            x.eater(33, 3);
            x.good(1, 1);
            x.bite(1, 1, 8);
            x.sheet(0, 2, 3);
            Due.feed(x, "ab");
            Due.is("P32 back", x.back(), 1);
            Due.is("P32 goods", x.count(1), 1);
            Due.is("P32 the day", x.count(2), 5);
            Due.is("P32 texts stay", x.count(3), 3 + round);
            Due.is("P32 the law", x.count(4), 0);
            Due.is("P32 the tape stays", x.count(5), 2);
            x.text();
            Due.is("P32 jaw", x.told(0, 2), 1);
            Due.is("P32 purse", x.told(0, 3), 98);
            Due.is("P32 had", x.told(0, 4), 1);
            Due.is("P32 worth", x.part(0, 9), 10);
            Due.is("P32 soft", x.part(0, 10), 0);
            Due.is("P32 left", x.part(0, 11), 1022);
            Due.is("P32 no second good", x.part(1, 0), -5);
            Due.is("P32 no second eater", x.told(1, 0), -5);
            Due.is("P32 sheets stay", x.judge(0), 0);
        }
    }

    private static void sheets() {
        BiteFirst x = new BiteFirst();
        Due.is("P33 sheet 4", x.sheet(4, 0, 1), BAD);
        Due.is("P33 sheet -1", x.sheet(-1, 0, 1), BAD);
        Due.is("P33 sheet 4, missing", x.sheet(4, -1, 1), BAD);
        Due.is("P33 sort 3", x.sheet(0, 3, 1), BAD);
        Due.is("P33 sort -2", x.sheet(0, -2, 1), BAD);
        Due.is("P33 sort 3 ahead of -14", x.sheet(0, 3, -1), BAD);
        Due.is("P33 n 41", x.sheet(0, 0, 41), BAD);
        Due.is("P33 n -1", x.sheet(0, 0, -1), -14);
        Due.is("P33 n least", x.sheet(0, 2, Integer.MIN_VALUE), -14);
        Due.is("P33 nothing came", x.cell(0, 0, 1), -11);
        for (int s = 0; s < 4; s++) {
            for (int sort = 0; sort < 3; sort++) {
                Due.is("P33 a row", x.sheet(s, sort, 40), 1);
                Due.is("P33 its last", x.cell(s, 39, 1), 1);
                Due.is("P33 behind its last", x.cell(s, 40, 1), -12);
                Due.is("P33 none", x.sheet(s, sort, 0), 1);
                Due.is("P33 none", x.cell(s, 0, 1), -12);
            }
        }
        Due.is("P33 missing", x.sheet(1, -1, 41), 1);
        Due.is("P33 missing", x.cell(1, 0, 1), -11);
        Due.is("P33 missing again", x.sheet(1, -1, -1), 1);
        Due.is("P33 the others stay", x.cell(2, 0, 1), -12);
        x.eater(0, 1);
        x.good(0, 1);
        Due.row(x, 0, 2, 1, 1, 16);
        Due.is("P33 not all 0", x.judge(0), BAD);
        x.sheet(0, 2, 3);
        Due.is("P33 all 0", x.judge(0), 0);
        Due.is("P33 a refusal changes nothing", x.sheet(0, 0, 41), BAD);
        Due.is("P33 a refusal changes nothing", x.sheet(0, 0, -1), -14);
        Due.is("P33 still three ints", x.cell(0, 2, 65536), 1);
        Due.is("P33 still three ints", x.judge(0), BAD);
    }

    private static void cells() {
        BiteFirst x = new BiteFirst();
        x.sheet(0, 0, 3);
        Due.is("P34 sheet 4", x.cell(4, 0, 1), BAD);
        Due.is("P34 sheet -1", x.cell(-1, 0, 1), BAD);
        Due.is("P34 nothing there", x.cell(1, 0, 1), -11);
        Due.is("P34 nothing there ahead of the place", x.cell(1, -1, 1), -11);
        Due.is("P34 place -1", x.cell(0, -1, 1), -12);
        Due.is("P34 place 3", x.cell(0, 3, 1), -12);
        Due.is("P34 place most", x.cell(0, Integer.MAX_VALUE, 1), -12);
        Due.is("P34 place 2", x.cell(0, 2, 1), 1);
        // What came to the cells is seen by the eaters that come of them.
        int[][] all = {{0, 256 + 47, 512 + 63}, {1, 65536 + 47, -65536 + 63}, {2, 47, 63}};
        for (int[] a : all) {
            BiteFirst y = new BiteFirst();
            Due.row(y, 3, a[0], 0, 0, a[1], a[2]);
            Due.is("P34 comes cut, sort " + a[0], y.eatersBy(3, a[0], 2, 1), 1);
            Due.is("P34 comes cut, kind", y.told(0, 0), 4);
            Due.is("P34 comes cut, more", y.told(0, 1), 7);
            Due.is("P34 comes cut, jaw", y.told(0, 2), 63);
        }
        int[][] none = {{0, 47, 64}, {0, 47, 255}, {1, 256 + 47, 63}, {1, 47, -1}, {2, 65536 + 47, 63},
            {2, 47, 256 + 63}, {2, 47, 65536 + 63}, {0, 60, 1}};
        for (int[] a : none) {
            BiteFirst y = new BiteFirst();
            Due.row(y, 3, a[0], 0, 0, a[1], a[2]);
            Due.is("P34 comes as it is, sort " + a[0], y.eatersBy(3, a[0], 2, 1), 0);
        }
    }

    /** A sheet of such a sort whose numbers make eaters of MORE 0 .. 3, all of jaw 1. */
    private static BiteFirst four(int sort) {
        BiteFirst x = new BiteFirst();
        Due.row(x, 0, sort, 0, 1, 1, 1, 2, 1, 3, 1);
        return x;
    }

    private static void hasMores(String what, BiteFirst x, int s, int sort, int... mores) {
        x.image();
        Due.is(what + ": how many", x.eatersBy(s, sort, 0, mores.length), mores.length);
        for (int e = 0; e < mores.length; e++) {
            Due.is(what + ": " + e, x.told(e, 1), mores[e]);
        }
        x.back();
    }

    private static void copies() {
        for (int sort = 0; sort < 3; sort++) {
            BiteFirst x = four(sort);
            Due.is("P35 to behind itself", x.copy(0, 0, 0, 2, 6), 6);
            hasMores("P35 as they were", x, 0, sort, 0, 0, 1, 2);
            x = four(sort);
            Due.is("P35 to ahead of itself", x.copy(0, 2, 0, 0, 6), 6);
            hasMores("P35 as they were", x, 0, sort, 1, 2, 3, 3);
            x = four(sort);
            x.sheet(2, sort, 4);
            Due.is("P35 to another one's", x.copy(0, 4, 2, 0, 4), 4);
            hasMores("P35 another one's", x, 2, sort, 2, 3);
            hasMores("P35 its own stay", x, 0, sort, 0, 1, 2, 3);
            Due.is("P35 some", x.copy(0, 2, 2, 2, 1), 1);
            hasMores("P35 some", x, 2, sort, 2, 1);
            Due.is("P35 none", x.copy(0, 0, 2, 0, 0), 0);
            Due.is("P35 none at the end", x.copy(0, 8, 2, 4, 0), 0);
            hasMores("P35 none", x, 2, sort, 2, 1);
            Due.is("P35 all onto itself", x.copy(0, 0, 0, 0, 8), 8);
            hasMores("P35 all onto itself", x, 0, sort, 0, 1, 2, 3);
        }
    }

    private static void eatersBySheets() {
        for (int sort = 0; sort < 3; sort++) {
            BiteFirst x = new BiteFirst();
            Due.row(x, 1, sort, 0, 1, 60, 1, 23, 63, 45, 64, 59, 7, 11, 0);
            Due.is("P36 none", x.eatersBy(1, sort, 0, 0), 0);
            Due.is("P36 others are left out", x.eatersBy(1, sort, 0, 5), 3);
            Due.is("P36 three came", x.count(0), 3);
            Due.is("P36 the second's kind", x.told(1, 0), 2);
            Due.is("P36 the second's more", x.told(1, 1), 3);
            Due.is("P36 the second's jaw", x.told(1, 2), 63);
            Due.is("P36 the second's purse", x.told(1, 3), 100);
            Due.is("P36 the third's kind", x.told(2, 0), 5);
            Due.is("P36 from a place on", x.eatersBy(1, sort, 8, 2), 1);
            Due.is("P36 the fourth's jaw", x.told(3, 2), 7);
            Due.is("P36 odd places", x.eatersBy(1, sort, 1, 1), 1);
            Due.is("P36 odd place's kind", x.told(4, 0), 0);
            Due.is("P36 odd place's more", x.told(4, 1), 1);
            Due.is("P36 odd place's jaw", x.told(4, 2), 60);
            Due.is("P36 no room: left out", x.eatersBy(1, sort, 0, 5), 0);
            Due.is("P36 five", x.count(0), 5);
        }
    }

    private static void taken() {
        BiteFirst x = new BiteFirst();
        Due.is("P37 nothing there", x.taken(0, 0), -11);
        Due.is("P37 nothing there", x.taken(5, 6), -11);
        Due.is("P37 nothing there, as another", x.taken(0, 6), -11);
        Due.is("P37 nothing there, as another", x.taken(5, 0), -11);
        int[] kinds = {0, 1, 3, 2, 4};
        for (int e = 0; e < 5; e++) {
            x.eater(10 * kinds[e], 1);
        }
        int[] is = {0b000001, 0b000011, 0b001011, 0b000101, 0b010101};
        for (int e = 0; e < 5; e++) {
            for (int kind = 0; kind < 6; kind++) {
                Due.is("P37 kind " + kinds[e] + " as " + kind, x.taken(e, kind), (is[e] >> kind & 1) != 0 ? e : -13);
            }
            Due.is("P37 an eater as a good", x.taken(e, 6), -13);
        }
        BiteFirst h = new BiteFirst();
        h.eater(50, 1);
        for (int kind = 0; kind < 6; kind++) {
            Due.is("P37 hired as " + kind, h.taken(0, kind), kind == 0 || kind == 5 ? 0 : -13);
        }
        for (int g = 0; g < 6; g++) {
            Due.is("P37 no good yet", x.taken(5 + g, 6), -11);
            x.good(0, 1);
            x.put(g, 11, 3 << g);
            Due.is("P37 a good", x.taken(5 + g, 6), 3 << g);
            for (int kind = 0; kind < 6; kind++) {
                Due.is("P37 a good as an eater", x.taken(5 + g, kind), -13);
            }
        }
        Due.is("P37 kind 7", x.taken(0, 7), BAD);
        Due.is("P37 kind -1", x.taken(0, -1), BAD);
        Due.is("P37 BAD ahead of the place", x.taken(11, 7), BAD);
        Due.is("P37 place 11", x.taken(11, 6), -12);
        Due.is("P37 place -1", x.taken(-1, 0), -12);
        Due.is("P37 place -1 as a good", x.taken(-1, 6), -12);
        Due.is("P37 place least", x.taken(Integer.MIN_VALUE, 6), -12);
    }
}
