/** The edges that the document names in promises 8 to 14 and in what it says of goods, eaters and kinds. */
public final class EdgesGoodsEatersTest {

    private static final int BAD = -2, FULL = -4;
    private static final int LEAST = Integer.MIN_VALUE, MOST = Integer.MAX_VALUE;

    public static void main(String[] args) {
        goodRefuses();
        goodTakes();
        goodsAreFull();
        goodRefusesInOrder();
        putRefuses();
        putRefusesInOrder();
        putTakes();
        partAtItsEdges();
        eaterRefuses();
        eaterTakes();
        eatersAreFull();
        eaterRefusesInOrder();
        toldAtItsEdges();
        lendRefuses();
        lendRefusesInOrder();
        lendTakes();
        shapeAtItsEdges();
        shapesOfJaws();
        shapesBySoft();
        shapesOfHiredOnes();
        paysBySoft();
        paysMoreBy3();
        likesBeyondTheBound();
        paysBeyondTheBound();
        Due.end("EdgesGoodsEatersTest");
    }

    // ---- promise 8

    private static void goodRefuses() {
        new Twin("P8 good", Table::laid)
            .is("BAD: SOFT (0 .. 9)", BAD, x -> x.good(-1, 5), x -> x.good(10, 5), x -> x.good(LEAST, 5), x -> x.good(MOST, 5))
            .is("BAD: worth 0 .. 99", BAD, x -> x.good(5, -1), x -> x.good(5, 100), x -> x.good(5, LEAST), x -> x.good(5, MOST))
            .areAlike();
    }

    /** "each of CELLS 0 .. 9 worth 0 .. 99; SOFT (0 .. 9); which CELLS are LEFT (.. all as one comes)". */
    private static void goodTakes() {
        for (int[] edge : new int[][] {{0, 0}, {0, 99}, {9, 0}, {9, 99}}) {
            BiteFirst x = Table.bare();
            Due.is("P8 good: the first is 0", x.good(edge[0], edge[1]), 0);
            for (int c = 0; c < 10; c++) {
                Due.is("P8 good: each cell", x.part(0, c), edge[1]);
            }
            Due.is("P8 good: SOFT", x.part(0, 10), edge[0]);
            Due.is("P8 good: all as one comes", x.part(0, 11), 1023);
        }
    }

    /** "GOODS are numbered from 0 on, 6 at most". */
    private static void goodsAreFull() {
        BiteFirst x = Table.bare();
        for (int g = 0; g < 6; g++) {
            Due.is("P8 good: numbered from 0 on", x.good(1, 1), g);
        }
        Due.is("P8 good: 6 at most", x.good(1, 1), FULL);
        Due.is("P8 good: 6 at most", x.count(1), 6);
        Due.is("P8 good: no number 6", x.part(6, 0), -5);
        new Twin("P8 good, full", Table::full)
            .is("FULL", FULL, x2 -> x2.good(0, 0), x2 -> x2.good(9, 99))
            .areAlike();
    }

    private static void goodRefusesInOrder() {
        new Twin("P8 good, full", Table::full)
            .is("BAD ahead of FULL", BAD, x -> x.good(-1, 5), x -> x.good(10, 5), x -> x.good(5, -1), x -> x.good(5, 100))
            .areAlike();
    }

    // ---- promise 9

    private static void putRefuses() {
        Twin twin = new Twin("P9 put", Table::laid)
            .is("-5: no such GOOD", -5, x -> x.put(-1, 0, 1), x -> x.put(3, 0, 1), x -> x.put(6, 0, 1),
                x -> x.put(LEAST, 0, 1), x -> x.put(MOST, 0, 1))
            .is("-7: what", -7, x -> x.put(0, -1, 1), x -> x.put(0, 12, 1), x -> x.put(0, LEAST, 1), x -> x.put(0, MOST, 1))
            .is("-7: v, SOFT", -7, x -> x.put(0, 10, -1), x -> x.put(0, 10, 10), x -> x.put(0, 10, LEAST),
                x -> x.put(0, 10, MOST))
            .is("-7: v, LEFT", -7, x -> x.put(0, 11, -1), x -> x.put(0, 11, 1024), x -> x.put(0, 11, LEAST),
                x -> x.put(0, 11, MOST));
        for (int c = 0; c < 10; c++) {
            int cell = c;
            twin.is("-7: v, CELL " + c, -7, x -> x.put(0, cell, -1), x -> x.put(0, cell, 100), x -> x.put(0, cell, LEAST),
                x -> x.put(0, cell, MOST));
        }
        twin.areAlike();
    }

    private static void putRefusesInOrder() {
        new Twin("P9 put", Table::laid)
            .is("-5 ahead of -7: what", -5, x -> x.put(3, 12, 1), x -> x.put(-1, -1, 1))
            .is("-5 ahead of -7: v", -5, x -> x.put(3, 0, 100), x -> x.put(-1, 10, 10), x -> x.put(6, 11, -1))
            .areAlike();
    }

    private static void putTakes() {
        BiteFirst x = Table.full();
        for (int g : new int[] {0, 5}) {
            for (int what = 0; what < 12; what++) {
                int most = what < 10 ? 99 : what == 10 ? 9 : 1023;
                int was = what < 10 ? 10 + 7 * g : what == 10 ? 9 - g : 1023;
                Due.is("P9 put: what it was", x.put(g, what, most), was);
                Due.is("P9 put: the most", x.part(g, what), most);
                Due.is("P9 put: what it was", x.put(g, what, 0), most);
                Due.is("P9 put: the least", x.part(g, what), 0);
                Due.is("P9 put: others stay", x.part(3, what), what < 10 ? 31 : what == 10 ? 6 : 1023);
            }
        }
    }

    // ---- promise 10

    private static void partAtItsEdges() {
        new Twin("P10 part", Table::laid)
            .is("-5: no such GOOD", -5, x -> x.part(-1, 0), x -> x.part(3, 0), x -> x.part(6, 0), x -> x.part(LEAST, 0),
                x -> x.part(MOST, 0))
            .is("-7: what", -7, x -> x.part(0, -1), x -> x.part(2, 12), x -> x.part(0, LEAST), x -> x.part(0, MOST))
            .is("-5 ahead of -7", -5, x -> x.part(-1, -1), x -> x.part(3, 12))
            .is("CELL 0, the first good", 10, x -> x.part(0, 0))
            .is("CELL 9, the last good", 30, x -> x.part(2, 9))
            .is("SOFT", 9, x -> x.part(2, 10))
            .is("LEFT", 1023 - 5, x -> x.part(0, 11))
            .areAlike();
    }

    // ---- promise 11

    private static void eaterRefuses() {
        new Twin("P11 eater", Table::laid)
            .is("BAD: kindMore", BAD, x -> x.eater(-1, 1), x -> x.eater(60, 1), x -> x.eater(-10, 1),
                x -> x.eater(LEAST, 1), x -> x.eater(MOST, 1))
            .is("BAD: JAW (1 .. 63)", BAD, x -> x.eater(0, 0), x -> x.eater(0, 64), x -> x.eater(0, -1),
                x -> x.eater(0, LEAST), x -> x.eater(0, MOST))
            .areAlike();
    }

    /** "(kindMore: 10 times KIND, and MORE; a JAW)"; "a PURSE (.. 100 as one comes); what one HAS HAD (.. 0)". */
    private static void eaterTakes() {
        int[][] edges = {{0, 1}, {9, 63}, {10, 1}, {19, 63}, {49, 32}, {50, 63}, {59, 1}};
        for (int[] edge : edges) {
            BiteFirst x = Table.bare();
            Due.is("P11 eater: the first is 0", x.eater(edge[0], edge[1]), 0);
            int[] want = {edge[0] / 10, edge[0] % 10, edge[1], 100, 0};
            for (int what = 0; what < 5; what++) {
                Due.is("P11 eater " + edge[0] + " as it comes, " + what, x.told(0, what), want[what]);
            }
        }
    }

    /** "EATERS are numbered from 0 on, 5 at most". */
    private static void eatersAreFull() {
        BiteFirst x = Table.bare();
        for (int e = 0; e < 5; e++) {
            Due.is("P11 eater: numbered from 0 on", x.eater(0, 1), e);
        }
        Due.is("P11 eater: 5 at most", x.eater(0, 1), FULL);
        Due.is("P11 eater: 5 at most", x.count(0), 5);
        Due.is("P11 eater: no number 5", x.told(5, 0), -5);
        new Twin("P11 eater, full", Table::full)
            .is("FULL", FULL, y -> y.eater(0, 1), y -> y.eater(59, 63))
            .areAlike();
    }

    private static void eaterRefusesInOrder() {
        new Twin("P11 eater, full", Table::full)
            .is("BAD ahead of FULL", BAD, x -> x.eater(-1, 1), x -> x.eater(60, 1), x -> x.eater(0, 0), x -> x.eater(0, 64))
            .areAlike();
    }

    // ---- promise 12

    private static void toldAtItsEdges() {
        new Twin("P12 told", Table::laid)
            .is("-5: no such EATER", -5, x -> x.told(-1, 0), x -> x.told(3, 0), x -> x.told(5, 0), x -> x.told(LEAST, 0),
                x -> x.told(MOST, 0))
            .is("-7: what", -7, x -> x.told(0, -1), x -> x.told(2, 5), x -> x.told(0, LEAST), x -> x.told(0, MOST))
            .is("-5 ahead of -7", -5, x -> x.told(-1, -1), x -> x.told(3, 5))
            .is("KIND of the first", 0, x -> x.told(0, 0))
            .is("MORE of the last", 6, x -> x.told(2, 1))
            .is("JAW of the last", 9, x -> x.told(2, 2))
            .is("PURSE", 77, x -> x.told(0, 3))
            .is("HAS HAD", 20, x -> x.told(0, 4))
            .areAlike();
    }

    // ---- promise 13

    private static void lendRefuses() {
        new Twin("P13 lend", Table::laid)
            .is("-5: no such EATER", -5, x -> x.lend(-1, 0, 1), x -> x.lend(3, 0, 1), x -> x.lend(5, 1, 1),
                x -> x.lend(LEAST, 0, 1), x -> x.lend(MOST, 1, 1))
            .is("-7: what", -7, x -> x.lend(0, -1, 1), x -> x.lend(0, 2, 1), x -> x.lend(0, LEAST, 1), x -> x.lend(0, MOST, 1))
            .is("-7: v, JAW (1 .. 63)", -7, x -> x.lend(0, 0, 0), x -> x.lend(0, 0, 64), x -> x.lend(0, 0, -1),
                x -> x.lend(0, 0, LEAST), x -> x.lend(0, 0, MOST))
            .is("-7: v, PURSE (0 .. 9999)", -7, x -> x.lend(0, 1, -1), x -> x.lend(0, 1, 10000), x -> x.lend(0, 1, LEAST),
                x -> x.lend(0, 1, MOST))
            .areAlike();
    }

    private static void lendRefusesInOrder() {
        new Twin("P13 lend", Table::laid)
            .is("-5 ahead of -7: what", -5, x -> x.lend(3, 2, 1), x -> x.lend(-1, -1, 1))
            .is("-5 ahead of -7: v", -5, x -> x.lend(3, 0, 0), x -> x.lend(3, 0, 64), x -> x.lend(-1, 1, 10000))
            .areAlike();
    }

    private static void lendTakes() {
        BiteFirst x = Table.full();
        int[] jaws = {0b101, 0, 0, 0, 0b1};
        for (int e : new int[] {0, 4}) {
            Due.is("P13 lend: what the JAW was", x.lend(e, 0, 63), jaws[e]);
            Due.is("P13 lend: JAW 63", x.told(e, 2), 63);
            Due.is("P13 lend: what the JAW was", x.lend(e, 0, 1), 63);
            Due.is("P13 lend: JAW 1", x.told(e, 2), 1);
            Due.is("P13 lend: what the PURSE was", x.lend(e, 1, 9999), 100);
            Due.is("P13 lend: PURSE 9999", x.told(e, 3), 9999);
            Due.is("P13 lend: what the PURSE was", x.lend(e, 1, 0), 9999);
            Due.is("P13 lend: PURSE 0", x.told(e, 3), 0);
            Due.is("P13 lend: another's JAW", x.told(1, 2), 0b11);
            Due.is("P13 lend: another's PURSE", x.told(1, 3), 100);
        }
    }

    // ---- promise 14

    private static void shapeAtItsEdges() {
        new Twin("P14 shape", Table::laid)
            .is("-5: no such EATER", -5, x -> x.shape(-1, 0), x -> x.shape(3, 0), x -> x.shape(5, 0), x -> x.shape(LEAST, 0),
                x -> x.shape(MOST, 0))
            .is("-5: no such GOOD", -5, x -> x.shape(0, -1), x -> x.shape(0, 3), x -> x.shape(0, 6), x -> x.shape(0, LEAST),
                x -> x.shape(0, MOST))
            .is("the first", 0b101, x -> x.shape(0, 0))
            .is("the last", 0b1, x -> x.shape(2, 2))
            .areAlike();
    }

    private static void shape(String sentence, int kindMore, int jaw, int softness, int want) {
        BiteFirst x = Table.pair(kindMore, jaw, softness, 1);
        Due.is("P14 " + sentence + ": kind and more " + kindMore + ", jaw " + jaw + ", soft " + softness, x.shape(0, 0), want);
        x.put(0, 11, 0);
        Due.is("P14 " + sentence + ", whatever is LEFT", x.shape(0, 0), want);
    }

    /** "a JAW (1 .. 63: bits 0 .. 5)"; "all bits, and those 1 above each"; "the lowest bit alone of a WIDE one's". */
    private static void shapesOfJaws() {
        for (int b = 0; b < 6; b++) {
            shape("the JAW", 0, 1 << b, 0, 1 << b);
            shape("those 1 above each", 10, 1 << b, 0, 3 << b);
            shape("the lowest bit alone", 30, 1 << b, 0, 1 << b);
            shape("the lowest bit alone of all above", 30, 64 - (1 << b), 0, 1 << b);
        }
        shape("all bits", 0, 63, 0, 63);
        shape("all bits, and 1 above", 10, 63, 0, 127);
        shape("all bits, and those 1 above each", 10, 0b100101, 0, 0b1101111);
        shape("the lowest of all", 30, 63, 0, 1);
    }

    /** "2 TOOTHLESS: 0, if SOFT is below 5"; of the others SOFT changes nothing. */
    private static void shapesBySoft() {
        for (int softness = 0; softness < 10; softness++) {
            int bitten = softness < 5 ? 0 : 63;
            shape("0, if SOFT is below 5", 20, 63, softness, bitten);
            shape("0, if SOFT is below 5, of GUMS", 49, 63, softness, bitten);
            shape("SOFT changes nothing of an EATER", 9, 63, softness, 63);
            shape("SOFT changes nothing of a WIDE", 19, 63, softness, 127);
            shape("SOFT changes nothing of a NIBBLER", 39, 63, softness, 1);
            shape("SOFT changes nothing of a HIRED", 59, 63, softness, 31);
        }
    }

    /** "5 HIRED: bits 0 .. MORE by 2 (cut), whatever the JAW is". */
    private static void shapesOfHiredOnes() {
        int[] want = {1, 1, 3, 3, 7, 7, 15, 15, 31, 31};
        for (int more = 0; more < 10; more++) {
            shape("MORE by 2 (cut)", 50 + more, 1, 0, want[more]);
            shape("whatever the JAW is", 50 + more, 63, 0, want[more]);
            shape("MORE changes nothing of an EATER", more, 5, 5, 5);
            shape("MORE changes nothing of a WIDE", 10 + more, 5, 5, 15);
            shape("MORE changes nothing of a TOOTHLESS", 20 + more, 5, 5, 5);
            shape("MORE changes nothing of a NIBBLER", 30 + more, 5, 5, 1);
            shape("MORE changes nothing of a GUMS", 40 + more, 5, 5, 5);
        }
    }

    /** What one bite of one cell costs, the text saying 8. */
    private static void pays(String sentence, int kindMore, int softness, int want) {
        BiteFirst x = Table.pair(kindMore, 1, softness, 1);
        Due.law(x, "8", "1", "0");
        Due.is("P15 " + sentence + ": kind and more " + kindMore + ", soft " + softness, x.mark(0, 0, 6, 1), want);
    }

    /** "PAYS 0, if SOFT is above 6" of a TOOTHLESS one. */
    private static void paysBySoft() {
        for (int softness = 0; softness < 10; softness++) {
            pays("0, if SOFT is above 6", 29, softness, softness > 6 ? 0 : 8);
            pays("MORE by 3 more than a TOOTHLESS one", 49, softness, softness > 6 ? 3 : 11);
            pays("SOFT changes nothing of an EATER", 9, softness, 8);
            pays("SOFT changes nothing of a WIDE", 19, softness, 8);
            pays("SOFT changes nothing of a NIBBLER", 39, softness, 8);
            pays("SOFT changes nothing of a HIRED", 59, softness, 11);
        }
    }

    /** "PAYS MORE by 3 (cut) more than a TOOTHLESS one" of a GUMS; "PAYS 3 more" of a HIRED. */
    private static void paysMoreBy3() {
        int[] by3 = {0, 0, 0, 1, 1, 1, 2, 2, 2, 3};
        for (int more = 0; more < 10; more++) {
            pays("MORE by 3 (cut)", 40 + more, 6, 8 + by3[more]);
            pays("MORE by 3 (cut), soft", 40 + more, 7, by3[more]);
            pays("3 more, whatever MORE is", 50 + more, 6, 11);
            pays("MORE changes nothing of an EATER", more, 6, 8);
            pays("MORE changes nothing of a WIDE", 10 + more, 6, 8);
            pays("MORE changes nothing of a TOOTHLESS", 20 + more, 6, 8);
            pays("MORE changes nothing of a NIBBLER", 30 + more, 6, 8);
        }
    }

    /** "LIKES MORE more", "LIKES twice as much": the bound of 99 is the text's. */
    private static void likesBeyondTheBound() {
        int[] likes99 = {99, 99, 99, 99 + 9, 198, 99};
        int[] likes0 = {0, 0, 0, 9, 0, 0};
        for (int kind = 0; kind < 6; kind++) {
            BiteFirst x = Table.pair(10 * kind + 9, 1, 9, 99);
            Due.law(x, "0", "999", "0");
            Due.is("P15 likes 99 and beyond, kind " + kind, x.mark(0, 0, 15, 2), likes99[kind]);
            Due.law(x, "0", "0", "0");
            Due.is("P15 likes 0, kind " + kind, x.mark(0, 0, 15, 2), likes0[kind]);
            BiteFirst y = Table.pair(10 * kind, 1, 9, 99);
            Due.is("P15 likes, MORE 0, kind " + kind, y.mark(0, 0, 15, 2), kind == 4 ? 198 : 99);
        }
    }

    /** The bound of 999 is the text's, too: a GUMS, a HIRED pay beyond it. */
    private static void paysBeyondTheBound() {
        int[] pays999 = {999, 999, 999, 999, 1002, 1002};
        for (int kind = 0; kind < 6; kind++) {
            BiteFirst x = Table.pair(10 * kind + 9, 1, 6, 99);
            Due.law(x, "9999", "0", "0");
            Due.is("P15 pays 999 and beyond, kind " + kind, x.mark(0, 0, 15, 1), pays999[kind]);
            x.lend(0, 1, pays999[kind] - 1);
            Due.is("P16 too dear by 1, kind " + kind, x.bite(0, 0, 15), FULL);
            x.lend(0, 1, pays999[kind]);
            Due.is("P16 all one has, kind " + kind, x.bite(0, 0, 15), pays999[kind]);
        }
    }
}
