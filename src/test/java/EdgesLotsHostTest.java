/** The edges that the document names in promises 29 to 37, and that of 512 calls. */
public final class EdgesLotsHostTest {

    private static final int BAD = -2, STATE = -3, FULL = -4;
    private static final int LEAST = Integer.MIN_VALUE, MOST = Integer.MAX_VALUE;
    private static final long NO = -4611686018427387904L;

    public static void main(String[] args) {
        drawnRefuses();
        drawnRefusesInOrder();
        drawnOfNoLots();
        drawnOfTheFirstLot();
        drawnOfAllSeeds();
        drawnOfSixtyLots();
        drawnIfThatCanBe();
        drawnHad9999AtMost();
        oddsRefuse();
        oddsTake();
        oddsInLowestTerms();
        oddsOfWant();
        noImage();
        imagesOfNothingAndAll();
        whatAnImageKeeps();
        imagesOfTheLeastAndTheMost();
        whatCameSinceIsNone();
        imagesReplaceAndStay();
        sheetRefuses();
        sheetRefusesInOrder();
        sheetTakes();
        sheetIsAll0();
        cellRefuses();
        cellTakesPlaces();
        cellCutsNumbers();
        copyRefuses();
        copyRefusesInOrder();
        copyTakesEdges();
        copyOntoItself();
        eatersByRefuses();
        eatersByRefusesInOrder();
        eatersByTakesEdges();
        eatersByLeavesOut();
        eatersByTillAPlaceOutside();
        takenRefuses();
        takenRefusesInOrder();
        takenAtTheEdges();
        takenAsOneOfAKind();
        the512thCall();
        Due.end("EdgesLotsHostTest");
    }

    // ---- promise 29

    /** Two eaters, and nothing that they may bite. */
    private static BiteFirst withoutGoods() {
        BiteFirst x = Table.bare();
        x.eater(4, 0b101);
        x.eater(17, 0b11);
        return x;
    }

    private static void drawnRefuses() {
        new Twin("P29 drawn", Table::laid)
            .is("-5: no such EATER", -5, x -> x.drawn(1, 5, -1, 0), x -> x.drawn(1, 5, 3, 0), x -> x.drawn(1, 5, 5, 1),
                x -> x.drawn(1, 5, LEAST, 0), x -> x.drawn(1, 5, MOST, 0))
            .is("-7: SEED (0 .. 99999)", -7, x -> x.drawn(-1, 5, 0, 0), x -> x.drawn(100000, 5, 0, 0),
                x -> x.drawn(LEAST, 5, 0, 0), x -> x.drawn(MOST, 5, 0, 0))
            .is("-7: n (0 .. 60)", -7, x -> x.drawn(1, -1, 0, 0), x -> x.drawn(1, 61, 0, 0), x -> x.drawn(1, LEAST, 0, 0),
                x -> x.drawn(1, MOST, 0, 0))
            .is("-7: what", -7, x -> x.drawn(1, 5, 0, -1), x -> x.drawn(1, 5, 0, 2), x -> x.drawn(1, 5, 0, LEAST),
                x -> x.drawn(1, 5, 0, MOST))
            .is("days are in thought", 1, x -> x.drawn(1, 60, 0, 1) < 77 ? 1 : 0, x -> x.drawn(1, 60, 2, 0) > 0 ? 1 : 0)
            .areAlike();
        new Twin("P29 drawn, no GOODS", EdgesLotsHostTest::withoutGoods)
            .is("STATE: no GOODS", STATE, x -> x.drawn(1, 5, 0, 0), x -> x.drawn(0, 0, 1, 1), x -> x.drawn(99999, 60, 1, 0))
            .areAlike();
    }

    private static void drawnRefusesInOrder() {
        new Twin("P29 drawn, no GOODS", EdgesLotsHostTest::withoutGoods)
            .is("-5 ahead of -7: SEED", -5, x -> x.drawn(-1, 5, -1, 0), x -> x.drawn(100000, 5, 2, 0))
            .is("-5 ahead of -7: n", -5, x -> x.drawn(1, -1, -1, 0), x -> x.drawn(1, 61, 2, 0))
            .is("-5 ahead of -7: what", -5, x -> x.drawn(1, 5, -1, 2), x -> x.drawn(1, 5, 2, -1))
            .is("-5 ahead of STATE", -5, x -> x.drawn(1, 5, -1, 0), x -> x.drawn(1, 5, 2, 1))
            .is("-7 ahead of STATE: SEED", -7, x -> x.drawn(-1, 5, 0, 0), x -> x.drawn(100000, 5, 0, 0))
            .is("-7 ahead of STATE: n", -7, x -> x.drawn(1, -1, 0, 0), x -> x.drawn(1, 61, 0, 0))
            .is("-7 ahead of STATE: what", -7, x -> x.drawn(1, 5, 0, -1), x -> x.drawn(1, 5, 0, 2))
            .areAlike();
        new Twin("P29 drawn, nobody, nothing", Table::bare)
            .is("-5 ahead of STATE", -5, x -> x.drawn(1, 5, 0, 0))
            .areAlike();
    }

    /** "n (0 .. 60) LOTS": none. */
    private static void drawnOfNoLots() {
        BiteFirst x = Table.laid();
        Due.is("P29 no lots: HAS HAD", x.drawn(0, 0, 0, 0), 20);
        Due.is("P29 no lots: PURSE", x.drawn(99999, 0, 0, 1), 77);
        Due.is("P29 no lots: HAS HAD, the last", x.drawn(0, 0, 2, 0), 0);
        Due.is("P29 no lots: PURSE, the last", x.drawn(99999, 0, 2, 1), 100);
    }

    /** Eaters of one tooth each; the cells of all goods are worth 1, 2, .. one behind the other. */
    private static BiteFirst rows(int eaters, int goods) {
        BiteFirst x = Table.bare();
        for (int e = 0; e < eaters; e++) {
            x.eater(0, 1);
        }
        for (int g = 0; g < goods; g++) {
            x.good(0, 0);
            for (int c = 0; c < 10; c++) {
                x.put(g, c, 10 * g + c + 1);
            }
        }
        return x;
    }

    /** "the first is (SEED and 1) times 48271 modulo 2147483647": which EATER, GOOD, PLACE it is. */
    private static void drawnOfTheFirstLot() {
        // SEED: 3 and 1 times 48271 is 193084: by 8 24135, by 64 3016, which is 8 modulo 16.
        isFirstLot(3, 193084);
        // The largest of which 48271 times as much is no more than the modulus, and the first that is more.
        isFirstLot(44487, 2147480248L);
        isFirstLot(44488, 2147528519L - 2147483647L);
        // 100000 times 48271 is 4827100000, less twice 2147483647.
        isFirstLot(99999, 532132706L);
        isFirstLot(99998, 532132706L - 48271);
        isFirstLot(0, 48271);
        isFirstLot(1, 2 * 48271);
    }

    private static void isFirstLot(int seed, long lot) {
        for (int eaters = 1; eaters <= 5; eaters++) {
            for (int goods = 1; goods <= 6; goods++) {
                BiteFirst x = rows(eaters, goods);
                int who = (int) (lot % eaters);
                int cell = (int) (lot / 64 % 16) - 6;
                int worth = cell < 0 ? 0 : 10 * (int) (lot / 8 % goods) + cell + 1;
                for (int e = 0; e < eaters; e++) {
                    boolean bites = e == who && cell >= 0;
                    Due.is("P29 HAS HAD by the first lot of " + seed, x.drawn(seed, 1, e, 0), bites ? worth : 0);
                    Due.is("P29 PURSE by the first lot of " + seed, x.drawn(seed, 1, e, 1), bites ? 98 : 100);
                }
            }
        }
    }

    /** "(0 .. 99999)": each lot bites truly on an object alike. */
    private static void drawnOfAllSeeds() {
        for (int seed : new int[] {0, 1, 44487, 44488, 77777, 99998, 99999}) {
            BiteFirst x = rows(5, 6);
            BiteFirst y = rows(5, 6);
            long lot = seed + 1;
            for (int n = 1; n <= 60; n++) {
                lot = lot * 48271 % 2147483647L;
                int e = (int) (lot % 5);
                y.bite(e, (int) (lot / 8 % 6), (int) (lot / 64 % 16));
                Due.is("P29 " + n + " lots of " + seed, x.drawn(seed, n, e, 0), y.told(e, 4));
                Due.is("P29 " + n + " lots of " + seed, x.drawn(seed, n, e, 1), y.told(e, 3));
            }
        }
    }

    /** "n (0 .. 60)": the 60th bites, too. */
    private static void drawnOfSixtyLots() {
        int bites = 0;
        for (int seed = 0; seed < 20; seed++) {
            BiteFirst x = rows(1, 6);
            long lot = seed + 1;
            int left = 0;
            for (int n = 1; n <= 60; n++) {
                lot = lot * 48271 % 2147483647L;
                int g = (int) (lot / 8 % 6);
                int at = (int) (lot / 64 % 16);
                boolean can = x.mark(0, g, at, 0) != 0;
                if (n == 60 && can) {
                    bites++;
                    left = x.mark(0, g, at, 2);
                }
                if (can) {
                    x.put(g, 11, x.part(g, 11) & ~x.mark(0, g, at, 0));
                }
            }
            BiteFirst y = rows(1, 6);
            y.lend(0, 1, 9999);
            Due.is("P29 the 60th lot of " + seed, y.drawn(seed, 60, 0, 0) - y.drawn(seed, 59, 0, 0), left);
        }
        Due.isTrue("P29 some 60th lots bite", bites > 0);
    }

    /** "bites, if that CAN BE": it has cells, and costs no more than the PURSE. */
    private static void drawnIfThatCanBe() {
        BiteFirst x = rows(1, 1);
        x.lend(0, 1, 2);
        Due.is("P29 all one has", x.drawn(3, 1, 0, 0), 3);
        Due.is("P29 all one has", x.drawn(3, 1, 0, 1), 0);
        x.lend(0, 1, 1);
        Due.is("P29 too dear by 1", x.drawn(3, 1, 0, 0), 0);
        Due.is("P29 too dear by 1", x.drawn(3, 1, 0, 1), 1);
        x.lend(0, 1, 9999);
        Due.is("P29 the largest PURSE", x.drawn(3, 1, 0, 1), 9997);
        x.put(0, 11, 1023 - 4);
        Due.is("P29 no cells", x.drawn(3, 1, 0, 0), 0);
        Due.is("P29 no cells", x.drawn(3, 1, 0, 1), 9999);
        x.put(0, 11, 0);
        Due.is("P29 nothing is LEFT", x.drawn(3, 60, 0, 0), 0);
        Due.is("P29 nothing is LEFT", x.drawn(3, 60, 0, 1), 9999);
        x.put(0, 11, 1023);
        Due.law(x, "0", "worth", "999");
        x.lend(0, 1, 0);
        Due.is("P29 for nothing, and none waits", x.drawn(3, 1, 0, 0), 3);
    }

    /** "(9999 at most)", in thought, too. */
    private static void drawnHad9999AtMost() {
        BiteFirst x = rows(1, 1);
        Due.law(x, "0", "99", "0");
        x.lend(0, 0, 63);
        for (int k = 0; k < 17; k++) {
            x.put(0, 11, k == 16 ? 0b1111 : 1023);
            x.bite(0, 0, 6);
        }
        x.lend(0, 0, 1);
        x.put(0, 11, 4);
        Due.is("P29 had 9900", x.told(0, 4), 9900);
        Due.is("P29 just 9999", x.drawn(3, 1, 0, 0), 9999);
        Due.is("P30 just 9999", x.odds(3, 101, 0, 9999, 0), 1);
        Due.law(x, "0", "98", "0");
        Due.is("P29 9998", x.drawn(3, 1, 0, 0), 9998);
        Due.is("P30 9998", x.odds(3, 101, 0, 9999, 0), 0);
        x.put(0, 11, 1);
        x.bite(0, 0, 6);
        x.put(0, 11, 4);
        Due.is("P29 9999 at most", x.drawn(3, 1, 0, 0), 9999);
        Due.is("P30 9999 at most", x.odds(3, 101, 0, 9999, 0), 1);
    }

    // ---- promise 30

    private static void oddsRefuse() {
        new Twin("P30 odds", Table::laid)
            .is("NO: SEED", NO, x -> x.odds(-1, 505, 0, 0, 0), x -> x.odds(100000, 505, 0, 0, 0),
                x -> x.odds(LEAST, 505, 0, 0, 0), x -> x.odds(MOST, 505, 0, 0, 0))
            .is("NO: how many LOTS (0 .. 60)", NO, x -> x.odds(1, 6101, 0, 0, 0), x -> x.odds(1, 6140, 0, 0, 0),
                x -> x.odds(1, 10001, 0, 0, 0), x -> x.odds(1, MOST, 0, 0, 0), x -> x.odds(1, 2147483601, 0, 0, 0))
            .is("NO: how many seeds (1 .. 40)", NO, x -> x.odds(1, 0, 0, 0, 0), x -> x.odds(1, 500, 0, 0, 0),
                x -> x.odds(1, 6000, 0, 0, 0), x -> x.odds(1, 41, 0, 0, 0), x -> x.odds(1, 541, 0, 0, 0),
                x -> x.odds(1, 6041, 0, 0, 0), x -> x.odds(1, 599, 0, 0, 0))
            .is("NO: below 0", NO, x -> x.odds(1, -1, 0, 0, 0), x -> x.odds(1, -5, 0, 0, 0), x -> x.odds(1, -99, 0, 0, 0),
                x -> x.odds(1, -100, 0, 0, 0), x -> x.odds(1, -500, 0, 0, 0), x -> x.odds(1, LEAST, 0, 0, 0))
            .is("NO: no such EATER", NO, x -> x.odds(1, 505, -1, 0, 0), x -> x.odds(1, 505, 3, 0, 0),
                x -> x.odds(1, 505, 5, 0, 1), x -> x.odds(1, 505, LEAST, 0, 0), x -> x.odds(1, 505, MOST, 0, 0))
            .is("NO: want (0 .. 9999)", NO, x -> x.odds(1, 505, 0, -1, 0), x -> x.odds(1, 505, 0, 10000, 0),
                x -> x.odds(1, 505, 0, LEAST, 0), x -> x.odds(1, 505, 0, MOST, 0))
            .is("NO: part", NO, x -> x.odds(1, 505, 0, 0, -1), x -> x.odds(1, 505, 0, 0, 2), x -> x.odds(1, 505, 0, 0, LEAST),
                x -> x.odds(1, 505, 0, 0, MOST))
            .is("days are in thought", 1, x -> x.odds(1, 6040, 0, 0, 0), x -> x.odds(1, 6040, 2, 0, 1))
            .areAlike();
        new Twin("P30 odds, no GOODS", EdgesLotsHostTest::withoutGoods)
            .is("NO: no GOODS", NO, x -> x.odds(0, 1, 0, 0, 0), x -> x.odds(1, 505, 1, 0, 1))
            .areAlike();
        new Twin("P30 odds, no EATERS", () -> rows(0, 6))
            .is("NO: no EATERS", NO, x -> x.odds(0, 1, 0, 0, 0), x -> x.odds(1, 505, 0, 0, 1))
            .areAlike();
    }

    /** The last ones that are taken: SEED 0, 99999; 0, 60 LOTS; 1, 40 seeds; want 0, 9999; the last EATER. */
    private static void oddsTake() {
        BiteFirst x = rows(5, 6);
        for (int seed : new int[] {0, 99999}) {
            for (int lots : new int[] {0, 60}) {
                for (int e : new int[] {0, 4}) {
                    String told = "P30 SEED " + seed + ", " + lots + " lots, EATER " + e;
                    Due.is(told + ", want 0: above", x.odds(seed, 100 * lots + 1, e, 0, 0), 1);
                    Due.is(told + ", want 0: below", x.odds(seed, 100 * lots + 1, e, 0, 1), 1);
                    Due.is(told + ", want 9999: above", x.odds(seed, 100 * lots + 1, e, 9999, 0), 0);
                    Due.is(told + ", want 9999: below", x.odds(seed, 100 * lots + 1, e, 9999, 1), 1);
                }
            }
        }
        Due.is("P30 40 seeds up to 99999", x.odds(99960, 6040, 4, 0, 0), 1);
        Due.is("P30 40 seeds, no lots", x.odds(0, 40, 4, 1, 0), 0);
        Due.is("P30 40 seeds, no lots", x.odds(0, 40, 4, 1, 1), 1);
    }

    /** "part 0 above, 1 below the line, in lowest terms": all of some seeds and of 40. */
    private static void oddsInLowestTerms() {
        BiteFirst[] x = {rows(1, 1), rows(1, 1)};
        int[] had = new int[41];
        for (int k = 0; k <= 40; k++) {
            had[k] = x[0].drawn(700 + k, 5, 0, 0);
        }
        for (int seeds = 1; seeds <= 40; seeds++) {
            for (int want : new int[] {1, 8, 14}) {
                int above = 0;
                for (int k = 0; k < seeds; k++) {
                    above += had[k] >= want ? 1 : 0;
                }
                int d = seeds;
                while (above % d != 0 || seeds % d != 0) {
                    d--;
                }
                BiteFirst one = x[seeds % 2];
                Due.is("P30 above the line, " + above + " of " + seeds, one.odds(700, 500 + seeds, 0, want, 0), above / d);
                Due.is("P30 below the line, " + above + " of " + seeds, one.odds(700, 500 + seeds, 0, want, 1), seeds / d);
            }
        }
    }

    /** "an EATER HAS HAD want .. or more": just so much, 1 less, 1 more. */
    private static void oddsOfWant() {
        BiteFirst x = rows(1, 1);
        Due.is("P30 had 3", x.drawn(3, 1, 0, 0), 3);
        Due.is("P30 want 2", x.odds(3, 101, 0, 2, 0), 1);
        Due.is("P30 want 3", x.odds(3, 101, 0, 3, 0), 1);
        Due.is("P30 want 4", x.odds(3, 101, 0, 4, 0), 0);
        x.bite(0, 0, 15);
        Due.is("P30 what one HAS HAD already, too", x.odds(3, 101, 0, 13, 0), 1);
        Due.is("P30 what one HAS HAD already, too", x.odds(3, 101, 0, 14, 0), 0);
        Due.is("P30 no lots", x.odds(3, 1, 0, 10, 0), 1);
        Due.is("P30 no lots", x.odds(3, 1, 0, 11, 0), 0);
    }

    // ---- promises 31, 32

    /** "STATE: there is none". */
    private static void noImage() {
        new Twin("P32 back, no image", Table::bare).is("STATE", STATE, x -> x.back(), x -> x.back()).areAlike();
        new Twin("P32 back, no image", EdgesLotsHostTest::withoutGoods).is("STATE", STATE, x -> x.back()).areAlike();
        new Twin("P31 image", Table::laid)
            .is("what is kept is there already", 2, x -> x.back(), x -> x.image(), x -> x.back())
            .is("two", 2, x -> x.count(0));
    }

    private static void imagesOfNothingAndAll() {
        BiteFirst x = Table.bare();
        Due.is("P31 nobody, nothing", x.image(), 0);
        for (int e = 0; e < 5; e++) {
            x.eater(0, 1);
        }
        for (int g = 0; g < 6; g++) {
            x.good(0, 1);
        }
        Due.is("P32 nobody, nothing", x.back(), 0);
        Due.is("P32 no EATERS", x.count(0), 0);
        Due.is("P32 no GOODS", x.count(1), 0);
        Due.is("P32 no EATERS", x.told(0, 0), -5);
        Due.is("P32 no GOODS", x.part(0, 0), -5);
        Due.is("P32 no EATERS", x.orderly(0), -1);
        Due.is("P32 nothing lies there", x.taken(0, 0), -11);
        Due.is("P32 nothing lies there", x.taken(5, 6), -11);
        BiteFirst y = Table.full();
        Due.is("P31 all", y.image(), 5);
        Due.is("P32 all", y.back(), 5);
        Due.is("P32 all EATERS", y.eater(0, 1), FULL);
        Due.is("P32 all GOODS", y.good(0, 1), FULL);
    }

    /** "AN IMAGE keeps what CELLS are worth, SOFT, what is LEFT .., JAWS, PURSES, what all HAVE HAD, THE DAY, THE LAW". */
    private static void whatAnImageKeeps() {
        for (int round = 0; round < 2; round++) {
            int rounds = round;
            new Twin("P32 back", EdgesLotsHostTest::kept)
                .is("all that it keeps is as in it", 3, x -> changedAndBack(x, rounds))
                .areAlike();
        }
        // What it doesn't keep stays: TEXTS, THE TAPE, SHEETS.
        BiteFirst x = kept();
        Due.is("P5 what the tape had is a fault", x.text(), -106);
        Due.text(x, "pays 3;likes 3;waits 3;");
        Due.feed(x, "abc");
        Due.row(x, 3, 0, 0, 0, 16);
        x.back();
        Due.is("P32 TEXTS stay", x.count(3), 3);
        Due.is("P32 a TEXT stays", x.force(2), 1);
        Due.is("P32 THE TAPE stays", x.count(5), 3);
        Due.is("P32 a SHEET stays", x.judge(3), BAD);
    }

    /** Each number that an image keeps, at its least and at its most, while it is the other one then. */
    private static void imagesOfTheLeastAndTheMost() {
        for (int most = 0; most < 2; most++) {
            BiteFirst x = Table.pair(0, 63, 0, 99);
            Due.text(x, "pays 0;likes 99;waits 0;");
            x.force(1);
            for (int k = 0; k < 17 * most; k++) {
                x.put(0, 11, 1023);
                x.bite(0, 0, 6);
            }
            all(x, most);
            x.image();
            all(x, 1 - most);
            x.put(0, 11, 63);
            x.force(1);
            x.bite(0, 0, 6);
            all(x, 1 - most);
            x.back();
            String told = most == 0 ? "P32 the least of " : "P32 the most of ";
            for (int what = 0; what < 12; what++) {
                Due.is(told + "a GOOD's " + what, x.part(0, what), most * (what < 10 ? 99 : what == 10 ? 9 : 1023));
            }
            Due.is(told + "a JAW", x.told(0, 2), most == 0 ? 1 : 63);
            Due.is(told + "a PURSE", x.told(0, 3), most * 9999);
            Due.is(told + "what one HAS HAD", x.told(0, 4), most * 9999);
            Due.is(told + "THE DAY", x.count(2), most * 99);
            Due.is(told + "THE LAW", x.count(4), most);
        }
    }

    /** All at its least (most 0), or at its most (1). */
    private static void all(BiteFirst x, int most) {
        for (int what = 0; what < 12; what++) {
            x.put(0, what, most * (what < 10 ? 99 : what == 10 ? 9 : 1023));
        }
        x.lend(0, 0, most == 0 ? 1 : 63);
        x.lend(0, 1, most * 9999);
        x.set(most * 99);
        x.force(most);
    }

    private static BiteFirst kept() {
        BiteFirst x = Table.laid();
        x.image();
        return x;
    }

    private static long changedAndBack(BiteFirst x, int rounds) {
        for (int k = 0; k < rounds; k++) {
            x.back();
        }
        for (int g = 0; g < 3; g++) {
            for (int what = 0; what < 12; what++) {
                x.put(g, what, 1 + what % 3);
            }
        }
        for (int e = 0; e < 3; e++) {
            x.lend(e, 0, 32);
            x.lend(e, 1, 1234);
        }
        x.put(1, 11, 1023);
        x.bite(0, 1, 6);
        x.bite(2, 1, 7);
        x.set(1);
        x.force(0);
        x.eater(0, 1);
        x.good(0, 1);
        return x.back();
    }

    /** "EATERS, GOODS that came since are none": others may come in their place, as new ones. */
    private static void whatCameSinceIsNone() {
        BiteFirst x = Table.bare();
        x.eater(0, 1);
        x.good(0, 9);
        x.image();
        for (int round = 0; round < 3; round++) {
            for (int e = 1; e < 5; e++) {
                Due.is("P32 room for four", x.eater(57, 3), e);
            }
            for (int g = 1; g < 6; g++) {
                Due.is("P32 room for five", x.good(9, 9), g);
            }
            Due.is("P32 no more room", x.eater(0, 1), FULL);
            Due.is("P32 no more room", x.good(0, 1), FULL);
            x.bite(4, 5, 6);
            x.put(5, 9, 1);
            Due.is("P32 one", x.back(), 1);
            Due.is("P32 no EATER 1", x.told(1, 0), -5);
            Due.is("P32 no EATER 4", x.told(4, 0), -5);
            Due.is("P32 no GOOD 1", x.part(1, 0), -5);
            Due.is("P32 no GOOD 5", x.part(5, 0), -5);
        }
        for (int e = 1; e < 5; e++) {
            x.eater(21, 7);
        }
        for (int g = 1; g < 6; g++) {
            x.good(1, 2);
        }
        int[] eater = {2, 1, 7, 100, 0};
        for (int what = 0; what < 5; what++) {
            Due.is("P32 a new one is as it comes", x.told(4, what), eater[what]);
        }
        for (int what = 0; what < 12; what++) {
            Due.is("P32 a new one is as it comes", x.part(5, what), what < 10 ? 2 : what == 10 ? 1 : 1023);
        }
    }

    private static void imagesReplaceAndStay() {
        BiteFirst x = Table.pair(0, 1, 0, 9);
        x.set(1);
        x.image();
        x.set(2);
        Due.is("P32 back once", x.back(), 1);
        Due.is("P32 back once", x.set(3), 1);
        Due.is("P32 back twice", x.back(), 1);
        Due.is("P32 back twice", x.set(4), 1);
        x.eater(0, 1);
        Due.is("P31 another image", x.image(), 2);
        x.set(5);
        x.eater(0, 1);
        Due.is("P32 the other one's", x.back(), 2);
        Due.is("P32 the other one's", x.count(2), 4);
        Due.is("P32 what is now is none of the image's", x.set(6), 4);
        Due.is("P32 what is now is none of the image's", x.back(), 2);
        Due.is("P32 what is now is none of the image's", x.count(2), 4);
    }

    // ---- promise 33

    private static void sheetRefuses() {
        new Twin("P33 sheet", Table::laid)
            .is("BAD: SHEET", BAD, x -> x.sheet(-1, 0, 1), x -> x.sheet(4, 0, 1), x -> x.sheet(LEAST, 0, 1),
                x -> x.sheet(MOST, 0, 1))
            .is("BAD: sort", BAD, x -> x.sheet(0, -2, 1), x -> x.sheet(0, 3, 1), x -> x.sheet(0, LEAST, 1),
                x -> x.sheet(0, MOST, 1))
            .is("BAD: n above 40", BAD, x -> x.sheet(0, 0, 41), x -> x.sheet(1, 1, 41), x -> x.sheet(2, 2, 41),
                x -> x.sheet(3, 0, MOST))
            .is("-14", -14, x -> x.sheet(0, 0, -1), x -> x.sheet(1, 1, -1), x -> x.sheet(2, 2, -1), x -> x.sheet(3, 0, LEAST))
            .areAlike();
    }

    private static void sheetRefusesInOrder() {
        new Twin("P33 sheet", Table::laid)
            .is("BAD SHEET ahead of -14", BAD, x -> x.sheet(-1, 0, -1), x -> x.sheet(4, 2, -1))
            .is("BAD sort ahead of -14", BAD, x -> x.sheet(0, 3, -1), x -> x.sheet(0, -2, -1))
            .is("BAD SHEET of sort -1", BAD, x -> x.sheet(-1, -1, 1), x -> x.sheet(4, -1, -1))
            .areAlike();
    }

    /** "SHEETS 0 .. 3"; "40 at most"; "or missing (sort -1: n does not matter): 1". */
    private static void sheetTakes() {
        for (int s = 0; s < 4; s++) {
            BiteFirst x = Table.bare();
            for (int sort = 0; sort < 3; sort++) {
                for (int n : new int[] {40, 0, 1, 39}) {
                    Due.is("P33 a row of " + n, x.sheet(s, sort, n), 1);
                    Due.is("P33 behind its last", x.cell(s, n, 1), -12);
                    Due.is("P33 its last", x.cell(s, n - 1, 1), n > 0 ? 1 : -12);
                    Due.is("P33 its sort", x.eatersBy(s, sort, 0, 0), 0);
                }
                for (int n : new int[] {0, 41, -1, LEAST, MOST}) {
                    x.sheet(s, sort, 3);
                    Due.is("P33 missing, whatever n is", x.sheet(s, -1, n), 1);
                    Due.is("P33 it is missing", x.cell(s, 0, 1), -11);
                    Due.is("P33 missing once more", x.sheet(s, -1, n), 1);
                }
            }
            for (int other = 0; other < 4; other++) {
                Due.is("P33 others are missing still", x.judge(other), -11);
            }
        }
    }

    /** "all 0": whatever it was. Two of 0 make no eater; of 0 and a JAW of 1 comes one of KIND 0, MORE 0. */
    private static void sheetIsAll0() {
        for (int sort = 0; sort < 3; sort++) {
            for (int was = -1; was < 3; was++) {
                BiteFirst x = Table.bare();
                x.image();
                x.sheet(0, was, 40);
                for (int i = 0; i < 40 && was >= 0; i++) {
                    x.cell(0, i, 1);
                }
                Due.is("P33 a row", x.sheet(0, sort, 40), 1);
                for (int i = 0; i < 40; i += 2) {
                    Due.is("P33 all 0", x.eatersBy(0, sort, i, 1), 0);
                    x.cell(0, i + 1, 1);
                    Due.is("P33 all 0 but one", x.eatersBy(0, sort, i, 1), 1);
                    Due.is("P33 a KIND of 0", x.told(0, 0), 0);
                    Due.is("P33 a MORE of 0", x.told(0, 1), 0);
                    x.back();
                }
            }
        }
    }

    // ---- promise 34

    private static void cellRefuses() {
        new Twin("P34 cell", Table::laid)
            .is("BAD: SHEET", BAD, x -> x.cell(-1, 0, 9), x -> x.cell(4, 0, 9), x -> x.cell(LEAST, 0, 9), x -> x.cell(MOST, 0, 9))
            .is("-11", -11, x -> x.cell(3, 0, 9))
            .is("-12", -12, x -> x.cell(0, -1, 9), x -> x.cell(0, 6, 9), x -> x.cell(1, 4, 9), x -> x.cell(2, 3, 9),
                x -> x.cell(0, LEAST, 9), x -> x.cell(0, MOST, 9), x -> x.cell(1, 40, 9), x -> x.cell(2, -40, 9))
            .is("BAD ahead of -12", BAD, x -> x.cell(-1, -1, 9), x -> x.cell(4, 40, 9))
            .is("-11 ahead of -12", -11, x -> x.cell(3, -1, 9), x -> x.cell(3, 40, 9))
            .areAlike();
        new Twin("P34 cell, full", Table::full)
            .is("-12", -12, x -> x.cell(0, 40, 9), x -> x.cell(1, 40, 9), x -> x.cell(2, 40, 9), x -> x.cell(3, -1, 9))
            .areAlike();
    }

    private static void cellTakesPlaces() {
        for (int n : new int[] {2, 3, 39, 40}) {
            for (int s = 0; s < 4; s++) {
                BiteFirst x = Table.bare();
                x.sheet(s, s % 3, n);
                Due.is("P34 the first of " + n, x.cell(s, 0, 47), 1);
                Due.is("P34 the last of " + n, x.cell(s, n - 1, 9), 1);
                Due.is("P34 behind the last of " + n, x.cell(s, n, 9), -12);
                x.sheet((s + 1) % 4, s % 3, 2);
                x.copy(s, 0, (s + 1) % 4, 0, 1);
                x.copy(s, n - 1, (s + 1) % 4, 1, 1);
                Due.is("P34 both came", x.eatersBy((s + 1) % 4, s % 3, 0, 1), 1);
                Due.is("P34 the first is as it came", x.told(0, 0) * 10 + x.told(0, 1), 47);
                Due.is("P34 the last is as it came", x.told(0, 2), 9);
                Due.is("P34 those between stay 0", x.eatersBy(s, s % 3, 0, 1), n == 2 ? 1 : 0);
            }
        }
    }

    /** "becomes v (of bytes, shorts its lowest 8, 16 bits)": v as KIND and MORE of an eater; -1: none comes of it. */
    private static void cellCutsNumbers() {
        int[] values = {0, 59, 60, 127, 128, 255, 256, 256 + 59, -256, -256 + 59, -1, 32767, 32768, 65535, 65536, 65536 + 59,
            -65536, -65536 + 59, 65536 + 256 + 59, 1 << 24, LEAST, LEAST + 59, MOST, MOST - 196};
        for (int v : values) {
            comes(0, v, (byte) v);
            comes(1, v, (short) v);
            comes(2, v, v);
        }
    }

    private static void comes(int sort, int v, int cut) {
        BiteFirst x = Table.bare();
        Due.row(x, 0, sort, 1, v, 1);
        boolean fine = cut >= 0 && cut < 60;
        Due.is("P34 " + v + " of sort " + sort, x.eatersBy(0, sort, 1, 1), fine ? 1 : 0);
        Due.is("P34 " + v + " of sort " + sort + ": KIND", x.told(0, 0), fine ? cut / 10 : -5);
        Due.is("P34 " + v + " of sort " + sort + ": MORE", x.told(0, 1), fine ? cut % 10 : -5);
        // Its neighbours stay: 1 ahead, 1 behind; two of 1 are a plain eater of MORE 1 and of JAW 1.
        x.cell(0, 1, 1);
        BiteFirst y = Table.bare();
        Due.row(y, 0, sort, 1, 1, 1);
        y.cell(0, 1, v);
        y.cell(0, 1, 1);
        Due.is("P34 neighbours of " + v + " stay", y.eatersBy(0, sort, 0, 1) + y.eatersBy(0, sort, 1, 1), 2);
    }

    // ---- promise 35

    private static BiteFirst rowsOfInts() {
        BiteFirst x = Table.laid();
        Due.row(x, 2, 2, 1, 2, 3, 4, 5, 6);
        Due.row(x, 3, 2, 11, 12, 13, 14);
        return x;
    }

    private static void copyRefuses() {
        new Twin("P35 copy", Table::laid)
            .is("BAD: SHEETS", BAD, x -> x.copy(-1, 0, 0, 0, 1), x -> x.copy(4, 0, 0, 0, 1), x -> x.copy(0, 0, -1, 0, 1),
                x -> x.copy(0, 0, 4, 0, 1), x -> x.copy(LEAST, 0, 0, 0, 1), x -> x.copy(0, 0, MOST, 0, 1))
            .is("-11", -11, x -> x.copy(3, 0, 0, 0, 1), x -> x.copy(0, 0, 3, 0, 1), x -> x.copy(3, 0, 3, 0, 0))
            .is("-13: unlike sorts", -13, x -> x.copy(0, 0, 1, 0, 1), x -> x.copy(1, 0, 0, 0, 1), x -> x.copy(0, 0, 2, 0, 1),
                x -> x.copy(2, 0, 0, 0, 1), x -> x.copy(1, 0, 2, 0, 1), x -> x.copy(2, 0, 1, 0, 1), x -> x.copy(2, 0, 1, 0, 0))
            .areAlike();
        new Twin("P35 copy", EdgesLotsHostTest::rowsOfInts)
            .is("-12: n below 0, too", -12, x -> x.copy(2, 0, 3, 0, -1), x -> x.copy(2, 1, 3, 1, -1), x -> x.copy(2, 0, 2, 0, -1),
                x -> x.copy(2, 0, 3, 0, LEAST), x -> x.copy(2, 6, 3, 4, LEAST))
            .is("-12: i", -12, x -> x.copy(2, -1, 3, 0, 1), x -> x.copy(2, 6, 3, 0, 1), x -> x.copy(2, 3, 3, 0, 4),
                x -> x.copy(2, -1, 3, 0, 0), x -> x.copy(2, 7, 3, 0, 0), x -> x.copy(2, LEAST, 3, 0, 1),
                x -> x.copy(2, MOST, 3, 0, 1), x -> x.copy(3, 1, 2, 0, 4))
            .is("-12: j", -12, x -> x.copy(2, 0, 3, -1, 1), x -> x.copy(2, 0, 3, 4, 1), x -> x.copy(2, 0, 3, 1, 4),
                x -> x.copy(2, 0, 3, -1, 0), x -> x.copy(2, 0, 3, 5, 0), x -> x.copy(2, 0, 3, LEAST, 1),
                x -> x.copy(2, 0, 3, MOST, 1), x -> x.copy(3, 0, 2, 3, 4))
            .is("-12: n", -12, x -> x.copy(2, 0, 3, 0, 5), x -> x.copy(3, 0, 2, 0, 5), x -> x.copy(2, 0, 2, 0, 7),
                x -> x.copy(2, 0, 3, 0, MOST))
            .is("-12, where i, j and n wrap around", -12, x -> x.copy(2, MOST, 3, 0, MOST), x -> x.copy(2, 0, 3, MOST, MOST),
                x -> x.copy(2, MOST, 3, MOST, 2), x -> x.copy(2, 5, 3, 3, MOST - 3), x -> x.copy(2, LEAST, 3, LEAST, LEAST),
                x -> x.copy(2, LEAST + 1, 3, LEAST + 1, MOST))
            .areAlike();
    }

    private static void copyRefusesInOrder() {
        new Twin("P35 copy", Table::laid)
            .is("BAD ahead of -11", BAD, x -> x.copy(3, 0, 4, 0, 1), x -> x.copy(-1, 0, 3, 0, 1))
            .is("BAD ahead of -12", BAD, x -> x.copy(0, -1, 4, 0, 1), x -> x.copy(4, 0, 0, 9, -1))
            .is("-11 ahead of -13", -11, x -> x.copy(3, 0, 0, 0, 1), x -> x.copy(1, 0, 3, 0, 1), x -> x.copy(3, 0, 2, 0, 1))
            .is("-11 ahead of -12", -11, x -> x.copy(3, 9, 0, 0, 1), x -> x.copy(0, -1, 3, 0, 1), x -> x.copy(3, 0, 3, 0, -1))
            .is("-13 ahead of -12: i", -13, x -> x.copy(0, -1, 1, 0, 1), x -> x.copy(0, 7, 1, 0, 1))
            .is("-13 ahead of -12: j", -13, x -> x.copy(0, 0, 1, -1, 1), x -> x.copy(0, 0, 1, 5, 1))
            .is("-13 ahead of -12: n", -13, x -> x.copy(0, 0, 1, 0, -1), x -> x.copy(0, 0, 1, 0, 5))
            .areAlike();
    }

    /** A sheet's numbers (of sort 2, 1 .. 59), read by eaters that come of each and a 1. */
    private static void has(String sentence, BiteFirst x, int s, int... want) {
        x.image();
        x.sheet(0, 2, 2);
        x.cell(0, 1, 1);
        for (int i = 0; i < want.length; i++) {
            x.copy(s, i, 0, 0, 1);
            x.eatersBy(0, 2, 0, 1);
            int e = x.count(0) - 1;
            Due.is("P35 " + sentence + ", number " + i, 10 * x.told(e, 0) + x.told(e, 1), want[i]);
            x.back();
        }
        Due.is("P35 " + sentence + ", the size stays", x.cell(s, want.length, 0), -12);
    }

    private static void copyTakesEdges() {
        BiteFirst x = rowsOfInts();
        Due.is("P35 none", x.copy(2, 0, 3, 0, 0), 0);
        Due.is("P35 none, at the ends", x.copy(2, 6, 3, 4, 0), 0);
        Due.is("P35 the first to the last", x.copy(2, 0, 3, 3, 1), 1);
        Due.is("P35 the last to the first", x.copy(2, 5, 3, 0, 1), 1);
        has("the first, the last", x, 3, 6, 12, 13, 1);
        has("the first, the last: whence", x, 2, 1, 2, 3, 4, 5, 6);
        Due.is("P35 as many as there are", x.copy(2, 2, 3, 0, 4), 4);
        has("as many as there are", x, 3, 3, 4, 5, 6);
        Due.is("P35 up to the end", x.copy(3, 0, 2, 2, 4), 4);
        has("up to the end", x, 2, 1, 2, 3, 4, 5, 6);
        BiteFirst y = Table.bare();
        y.sheet(2, 2, 40);
        y.sheet(1, 2, 40);
        y.cell(2, 0, 7);
        y.cell(2, 39, 9);
        Due.is("P35 forty", y.copy(2, 0, 1, 0, 40), 40);
        Due.is("P35 forty onto themselves", y.copy(1, 0, 1, 0, 40), 40);
        Due.is("P35 forty and one", y.copy(2, 0, 1, 0, 41), -12);
        Due.is("P35 none of forty", y.copy(2, 40, 1, 40, 0), 0);
        Due.is("P35 none beyond forty", y.copy(2, 41, 1, 0, 0), -12);
        Due.is("P35 none beyond forty", y.copy(2, 0, 1, 41, 0), -12);
        Due.is("P35 the last of forty", y.copy(1, 39, 1, 1, 1), 1);
        Due.is("P35 the first and the last came", y.eatersBy(1, 2, 0, 1), 1);
        Due.is("P35 the first came", y.told(0, 1), 7);
        Due.is("P35 the last came", y.told(0, 2), 9);
        BiteFirst empty = Table.bare();
        empty.sheet(0, 0, 0);
        Due.is("P35 none of none", empty.copy(0, 0, 0, 0, 0), 0);
        Due.is("P35 one of none", empty.copy(0, 0, 0, 0, 1), -12);
    }

    /** "(or its own) place j (as they were)": where the two overlap, on either side. */
    private static void copyOntoItself() {
        BiteFirst x = rowsOfInts();
        Due.is("P35 1 behind itself", x.copy(2, 0, 2, 1, 5), 5);
        has("1 behind itself", x, 2, 1, 1, 2, 3, 4, 5);
        x = rowsOfInts();
        Due.is("P35 1 ahead of itself", x.copy(2, 1, 2, 0, 5), 5);
        has("1 ahead of itself", x, 2, 2, 3, 4, 5, 6, 6);
        x = rowsOfInts();
        Due.is("P35 onto itself", x.copy(2, 0, 2, 0, 6), 6);
        has("onto itself", x, 2, 1, 2, 3, 4, 5, 6);
        x = rowsOfInts();
        Due.is("P35 2 behind itself", x.copy(2, 1, 2, 3, 3), 3);
        has("2 behind itself", x, 2, 1, 2, 3, 2, 3, 4);
        for (int sort = 0; sort < 2; sort++) {
            BiteFirst y = Table.bare();
            Due.row(y, 1, sort, 41, 42, 43, 44);
            Due.is("P35 1 behind itself, sort " + sort, y.copy(1, 0, 1, 1, 3), 3);
            Due.is("P35 1 behind itself, sort " + sort, y.eatersBy(1, sort, 0, 2), 2);
            Due.is("P35 as they were, sort " + sort, y.told(1, 1), 2);
            Due.is("P35 as they were, sort " + sort, y.told(1, 2), 43);
        }
    }

    // ---- promise 36

    private static void eatersByRefuses() {
        new Twin("P36 eatersBy", Table::laid)
            .is("BAD: SHEET", BAD, x -> x.eatersBy(-1, 1, 0, 1), x -> x.eatersBy(4, 1, 0, 1), x -> x.eatersBy(LEAST, 1, 0, 1),
                x -> x.eatersBy(MOST, 1, 0, 1))
            .is("BAD: sort", BAD, x -> x.eatersBy(1, -1, 0, 1), x -> x.eatersBy(1, 3, 0, 1), x -> x.eatersBy(1, LEAST, 0, 1),
                x -> x.eatersBy(1, MOST, 0, 1), x -> x.eatersBy(3, -1, 0, 1))
            .is("BAD: n (0 .. 5)", BAD, x -> x.eatersBy(1, 1, 0, -1), x -> x.eatersBy(1, 1, 0, 6), x -> x.eatersBy(1, 1, 0, LEAST),
                x -> x.eatersBy(1, 1, 0, MOST))
            .is("-11", -11, x -> x.eatersBy(3, 0, 0, 1), x -> x.eatersBy(3, 1, 0, 0), x -> x.eatersBy(3, 2, 0, 5))
            .is("-13", -13, x -> x.eatersBy(0, 1, 0, 1), x -> x.eatersBy(0, 2, 0, 1), x -> x.eatersBy(1, 0, 0, 1),
                x -> x.eatersBy(1, 2, 0, 1), x -> x.eatersBy(2, 0, 0, 1), x -> x.eatersBy(2, 1, 0, 0))
            .is("-12", -12, x -> x.eatersBy(1, 1, -1, 1), x -> x.eatersBy(1, 1, 3, 1), x -> x.eatersBy(1, 1, 4, 1),
                x -> x.eatersBy(1, 1, 5, 1), x -> x.eatersBy(1, 1, LEAST, 1), x -> x.eatersBy(1, 1, MOST, 1),
                x -> x.eatersBy(1, 1, MOST - 1, 2), x -> x.eatersBy(1, 1, -2, 5), x -> x.eatersBy(2, 2, 2, 1))
            .is("n 0: none come", 0, x -> x.eatersBy(1, 1, 0, 0), x -> x.eatersBy(0, 0, 6, 0))
            .areAlike();
    }

    private static void eatersByRefusesInOrder() {
        new Twin("P36 eatersBy", Table::laid)
            .is("BAD ahead of -11: sort", BAD, x -> x.eatersBy(3, 3, 0, 1), x -> x.eatersBy(3, -1, 0, 1))
            .is("BAD ahead of -11: n", BAD, x -> x.eatersBy(3, 1, 0, 6), x -> x.eatersBy(3, 1, 0, -1))
            .is("BAD ahead of -13: n", BAD, x -> x.eatersBy(1, 0, 0, 6), x -> x.eatersBy(1, 2, 0, -1))
            .is("BAD ahead of -12: SHEET, sort, n", BAD, x -> x.eatersBy(4, 1, 9, 1), x -> x.eatersBy(1, 3, -1, 1),
                x -> x.eatersBy(1, 1, 9, 6), x -> x.eatersBy(1, 1, -1, -1))
            .is("-11 ahead of -12", -11, x -> x.eatersBy(3, 1, -1, 1), x -> x.eatersBy(3, 1, 41, 1))
            .is("-13 ahead of -12", -13, x -> x.eatersBy(1, 0, -1, 1), x -> x.eatersBy(1, 2, 4, 1))
            .areAlike();
    }

    /** "from a place on, two by two (as of eater()), n of them (0 .. 5): how many came". */
    private static void eatersByTakesEdges() {
        for (int sort = 0; sort < 3; sort++) {
            BiteFirst x = Table.bare();
            x.sheet(1, sort, 40);
            for (int k = 0; k < 5; k++) {
                x.cell(1, 30 + 2 * k, 59 - 10 * k);
                x.cell(1, 31 + 2 * k, 63 - k);
            }
            Due.is("P36 none of them", x.eatersBy(1, sort, 30, 0), 0);
            Due.is("P36 no EATERS yet", x.count(0), 0);
            Due.is("P36 five, the last of 40", x.eatersBy(1, sort, 30, 5), 5);
            for (int e = 0; e < 5; e++) {
                Due.is("P36 KIND of " + e, x.told(e, 0), 5 - e);
                Due.is("P36 MORE of " + e, x.told(e, 1), 9);
                Due.is("P36 JAW of " + e, x.told(e, 2), 63 - e);
                Due.is("P36 PURSE of " + e, x.told(e, 3), 100);
                Due.is("P36 HAS HAD of " + e, x.told(e, 4), 0);
            }
            BiteFirst y = Table.bare();
            Due.row(y, 1, sort, 1, 2, 3);
            Due.is("P36 the first place", y.eatersBy(1, sort, 0, 1), 1);
            Due.is("P36 the last place of two", y.eatersBy(1, sort, 1, 1), 1);
            Due.is("P36 the last place of two", y.told(1, 1) * 100 + y.told(1, 2), 203);
            Due.is("P36 half of two", y.eatersBy(1, sort, 2, 1), -12);
            Due.is("P36 half of two is none", y.count(0), 2);
            y.sheet(1, sort, 0);
            Due.is("P36 none of a row of none", y.eatersBy(1, sort, 0, 0), 0);
            Due.is("P36 one of a row of none", y.eatersBy(1, sort, 0, 1), -12);
        }
    }

    /** "(others are left out)": who would be BAD; who has no room. */
    private static void eatersByLeavesOut() {
        int[][] bad = {{60, 1}, {-1, 1}, {0, 0}, {0, 64}, {59, -1}};
        for (int[] row : bad) {
            BiteFirst x = Table.bare();
            Due.row(x, 1, 2, row[0], row[1], 47, 9, row[0], row[1], 36, 5, row[0], row[1]);
            Due.is("P36 " + row[0] + ", " + row[1] + " are left out", x.eatersBy(1, 2, 0, 5), 2);
            Due.is("P36 the others come", x.count(0), 2);
            Due.is("P36 the first of the others", x.told(0, 2), 9);
            Due.is("P36 the second of the others", x.told(1, 2), 5);
        }
        for (int there = 0; there <= 5; there++) {
            BiteFirst x = Table.bare();
            for (int e = 0; e < there; e++) {
                x.eater(0, 63);
            }
            Due.row(x, 1, 2, 11, 1, 12, 2, 13, 3, 14, 4, 15, 5);
            Due.is("P36 room for " + (5 - there), x.eatersBy(1, 2, 0, 5), 5 - there);
            Due.is("P36 five at most", x.count(0), 5);
            for (int e = 0; e < 5; e++) {
                Due.is("P36 who came of " + there, x.told(e, 2), e < there ? 63 : e - there + 1);
            }
            Due.is("P36 no room: left out, no refusal", x.eatersBy(1, 2, 0, 1), 0);
            Due.is("P36 no room, a place outside", x.eatersBy(1, 2, 8, 2), -12);
        }
    }

    /** "-12: what stood ahead came". */
    private static void eatersByTillAPlaceOutside() {
        for (int n = 2; n <= 5; n++) {
            for (int half = 0; half < 2; half++) {
                BiteFirst x = Table.bare();
                x.sheet(1, 2, 2 * n - 2 + half);
                for (int k = 0; k < n - 1; k++) {
                    x.cell(1, 2 * k, 10 * k + 1);
                    x.cell(1, 2 * k + 1, k + 1);
                }
                Due.is("P36 the last of " + n + " is outside", x.eatersBy(1, 2, 0, n), -12);
                Due.is("P36 what stood ahead came, of " + n, x.count(0), n - 1);
                Due.is("P36 the last that came, of " + n, x.told(n - 2, 2), n - 1);
            }
        }
        BiteFirst x = Table.bare();
        Due.row(x, 1, 2, 60, 1, 11, 1, 5);
        Due.is("P36 one is left out, one comes, one is outside", x.eatersBy(1, 2, 0, 3), -12);
        Due.is("P36 one came", x.count(0), 1);
        Due.is("P36 it is the second", x.told(0, 0), 1);
    }

    // ---- promise 37

    private static void takenRefuses() {
        new Twin("P37 taken", Table::laid)
            .is("BAD: kind", BAD, x -> x.taken(0, -1), x -> x.taken(0, 7), x -> x.taken(5, 7), x -> x.taken(0, LEAST),
                x -> x.taken(5, MOST))
            .is("-12: i", -12, x -> x.taken(-1, 0), x -> x.taken(11, 6), x -> x.taken(-1, 6), x -> x.taken(LEAST, 0),
                x -> x.taken(MOST, 6))
            .is("-11: nothing lies there", -11, x -> x.taken(3, 0), x -> x.taken(4, 5), x -> x.taken(8, 6), x -> x.taken(10, 6))
            .is("-13", -13, x -> x.taken(0, 1), x -> x.taken(1, 2), x -> x.taken(2, 5), x -> x.taken(0, 6), x -> x.taken(5, 0),
                x -> x.taken(7, 5))
            .is("an EATER", 0, x -> x.taken(0, 0))
            .is("the last EATER", 2, x -> x.taken(2, 3))
            .is("the first GOOD", 1023 - 5, x -> x.taken(5, 6))
            .areAlike();
    }

    private static void takenRefusesInOrder() {
        new Twin("P37 taken", Table::laid)
            .is("BAD ahead of -12", BAD, x -> x.taken(-1, -1), x -> x.taken(11, 7))
            .is("BAD ahead of -11", BAD, x -> x.taken(3, 7), x -> x.taken(8, -1))
            .is("BAD ahead of -13", BAD, x -> x.taken(5, -1), x -> x.taken(0, 7))
            .is("-11 ahead of -13", -11, x -> x.taken(3, 6), x -> x.taken(4, 6), x -> x.taken(8, 0), x -> x.taken(10, 5))
            .areAlike();
    }

    /** "0 .. 4 EATERS, 5 .. 10 GOODS 0 .. 5". */
    private static void takenAtTheEdges() {
        BiteFirst x = Table.full();
        for (int g = 0; g < 6; g++) {
            x.put(g, 11, 100 + g);
        }
        for (int e = 0; e < 5; e++) {
            Due.is("P37 EATER " + e, x.taken(e, 0), e);
            Due.is("P37 an EATER is no GOOD", x.taken(e, 6), -13);
        }
        for (int g = 0; g < 6; g++) {
            Due.is("P37 what is LEFT of GOOD " + g, x.taken(5 + g, 6), 100 + g);
            for (int kind = 0; kind < 6; kind++) {
                Due.is("P37 a GOOD is no EATER", x.taken(5 + g, kind), -13);
            }
        }
        x.put(0, 11, 0);
        x.put(5, 11, 1023);
        Due.is("P37 nothing is LEFT", x.taken(5, 6), 0);
        Due.is("P37 all is LEFT", x.taken(10, 6), 1023);
    }

    /** "an EATER of that KIND (also of one that is one)": each KIND taken for each. */
    private static void takenAsOneOfAKind() {
        String[] is = {"0", "01", "02", "013", "024", "05"};
        for (int kind = 0; kind < 6; kind++) {
            BiteFirst x = Table.bare();
            for (int e = 0; e < 5; e++) {
                x.eater(10 * kind + e, 1 + e);
            }
            for (int as = 0; as < 6; as++) {
                boolean taken = is[kind].indexOf('0' + as) >= 0;
                for (int e = 0; e < 5; e++) {
                    Due.is("P37 KIND " + kind + " taken for " + as, x.taken(e, as), taken ? e : -13);
                }
            }
        }
    }

    // ---- the head of the document

    /** "An object is used for at most 512 calls": the last of them answers as the first. */
    private static void the512thCall() {
        BiteFirst x = Table.bare();
        for (int k = 0; k < 511; k++) {
            int answer = k % 2 == 0 ? x.set(k % 100) : x.count(2);
            Due.is("call " + (k + 1), answer, k < 1 ? 0 : k % 2 == 0 ? (k - 2) % 100 : (k - 1) % 100);
        }
        Due.is("call 512", x.count(2), 10);
        BiteFirst y = Table.bare();
        for (int k = 0; k < 509; k++) {
            y.image();
        }
        Due.is("call 510", y.eater(59, 63), 0);
        Due.is("call 511", y.good(9, 99), 0);
        Due.is("call 512", y.best(0, 1), 5 * 99 - 13);
        BiteFirst z = Table.bare();
        for (int k = 0; k < 511; k++) {
            z.feed(1, '(', 0, 0, 0, 0);
        }
        Due.is("call 512", z.text(), -100);
    }
}
