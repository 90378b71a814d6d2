/** The edges that the document names in promises 15 to 22 and in what it says of bites, orders, duels. */
public final class EdgesBitesTest {

    private static final int NONE = -1, BAD = -2, STATE = -3, FULL = -4;
    private static final int LEAST = Integer.MIN_VALUE, MOST = Integer.MAX_VALUE;
    private static final int NO_DUEL = -1000005, DUEL_BAD = -1000007;

    public static void main(String[] args) {
        markRefuses();
        markRefusesInOrder();
        marksAtTheEdges();
        marksOfWhatIsLeft();
        markOfABiteThatCanNotBe();
        theWorthOfAllCellsTogether();
        toldAsItIsAhead();
        biteRefuses();
        biteRefusesInOrder();
        biteForAllOneHas();
        biteForNothing();
        hasHad9999AtMost();
        bestRefuses();
        bestOfNone();
        bestAtTheFirstAndLast();
        bestOfLikeOnes();
        bestThatWaits();
        orderlyRefuses();
        ordersOfFewAndMany();
        ordersOfLikeGains();
        ordersWithoutBites();
        duelRefuses();
        duelRefusesInOrder();
        duelsOfNone();
        duelsBelow0();
        duelsOfLikeOnes();
        duelsAtTheFirstAndLast();
        fewestRefuses();
        fewestAtTheEdges();
        soonestRefuses();
        soonestAtTheEdges();
        hireRefuses();
        hireAtTheEdges();
        hireOfLikeOnes();
        hireIfMore();
        Due.end("EdgesBitesTest");
    }

    /** As laid, but the first eater has no money. */
    private static BiteFirst poor() {
        BiteFirst x = Table.laid();
        x.lend(0, 1, 0);
        return x;
    }

    // ---- promise 15

    private static void markRefuses() {
        new Twin("P15 mark", Table::laid)
            .is("-5: no such EATER", -5, x -> x.mark(-1, 0, 6, 0), x -> x.mark(3, 0, 6, 0), x -> x.mark(5, 0, 6, 0),
                x -> x.mark(LEAST, 0, 6, 0), x -> x.mark(MOST, 0, 6, 0))
            .is("-5: no such GOOD", -5, x -> x.mark(0, -1, 6, 0), x -> x.mark(0, 3, 6, 0), x -> x.mark(0, 6, 6, 0),
                x -> x.mark(0, LEAST, 6, 0), x -> x.mark(0, MOST, 6, 0))
            .is("-7: PLACE (0 .. 15)", -7, x -> x.mark(0, 0, -1, 0), x -> x.mark(0, 0, 16, 0), x -> x.mark(0, 0, LEAST, 0),
                x -> x.mark(0, 0, MOST, 0))
            .is("-7: what", -7, x -> x.mark(0, 0, 6, -1), x -> x.mark(0, 0, 6, 3), x -> x.mark(0, 0, 6, LEAST),
                x -> x.mark(0, 0, 6, MOST))
            .is("a mark is only asked for", 0b1110, x -> x.mark(1, 2, 7, 0))
            .is("a cost is only asked for", 4, x -> x.mark(1, 2, 7, 1))
            .is("a worth is only asked for", 30 + 30 + 99, x -> x.mark(1, 2, 7, 2))
            .areAlike();
    }

    private static void markRefusesInOrder() {
        new Twin("P15 mark", Table::laid)
            .is("-5 ahead of -7: EATER, PLACE", -5, x -> x.mark(3, 0, 16, 0), x -> x.mark(-1, 0, -1, 0))
            .is("-5 ahead of -7: EATER, what", -5, x -> x.mark(3, 0, 6, 3), x -> x.mark(-1, 0, 6, -1))
            .is("-5 ahead of -7: GOOD, PLACE", -5, x -> x.mark(0, 3, 16, 0), x -> x.mark(0, -1, -1, 0))
            .is("-5 ahead of -7: GOOD, what", -5, x -> x.mark(0, 3, 6, 3), x -> x.mark(0, -1, 6, -1))
            .areAlike();
    }

    /** "A BITE at a PLACE (0 .. 15) takes .. CELLS c such that bit (c less PLACE, and 6) of the SHAPE is there". */
    private static void marksAtTheEdges() {
        for (int b = 0; b < 6; b++) {
            BiteFirst x = Table.pair(0, 1 << b, 0, 1);
            BiteFirst wide = Table.pair(10, 1 << b, 0, 1);
            for (int at = 0; at < 16; at++) {
                int cell = b + at - 6;
                int one = cell >= 0 && cell < 10 ? 1 << cell : 0;
                int above = cell >= -1 && cell < 9 ? 1 << (cell + 1) : 0;
                Due.is("P15 mark of bit " + b + " at " + at, x.mark(0, 0, at, 0), one);
                Due.is("P15 mark of bits " + b + " and 1 above at " + at, wide.mark(0, 0, at, 0), one | above);
            }
        }
        BiteFirst x = Table.pair(0, 63, 0, 1);
        Due.is("P15 mark of six bits at 0", x.mark(0, 0, 0, 0), 0);
        Due.is("P15 mark of six bits at 1", x.mark(0, 0, 1, 0), 1);
        Due.is("P15 mark of six bits at 10", x.mark(0, 0, 10, 0), 0b1111110000);
        Due.is("P15 mark of six bits at 11", x.mark(0, 0, 11, 0), 0b1111100000);
        Due.is("P15 mark of six bits at 15", x.mark(0, 0, 15, 0), 0b1000000000);
        BiteFirst y = Table.pair(10, 63, 0, 1);
        Due.is("P15 mark of seven bits at 0", y.mark(0, 0, 0, 0), 1);
        Due.is("P15 mark of seven bits at 15", y.mark(0, 0, 15, 0), 512);
    }

    /** "of what is LEFT": none, all, one. */
    private static void marksOfWhatIsLeft() {
        BiteFirst x = Table.pair(10, 63, 0, 1);
        for (int c = 0; c < 10; c++) {
            x.put(0, 11, 1 << c);
            for (int at = 0; at < 16; at++) {
                Due.is("P15 mark, cell " + c + " alone is LEFT, at " + at, x.mark(0, 0, at, 0),
                    c >= at - 6 && c <= at ? 1 << c : 0);
            }
        }
        x.put(0, 11, 0);
        Due.is("P15 mark, nothing is LEFT", x.mark(0, 0, 6, 0), 0);
        Due.is("P15 cost, nothing is LEFT", x.mark(0, 0, 6, 1), 0);
        Due.is("P15 worth, nothing is LEFT", x.mark(0, 0, 6, 2), 0);
    }

    /** "whether it CAN BE or not". */
    private static void markOfABiteThatCanNotBe() {
        BiteFirst x = Table.pair(53, 1, 0, 9);
        Due.law(x, "cells * 5 + worth + left + 1", "worth + 1", "0");
        x.lend(0, 1, 0);
        Due.is("P15 too dear: the mark", x.mark(0, 0, 6, 0), 0b11);
        Due.is("P15 too dear: the cost", x.mark(0, 0, 6, 1), 10 + 18 + 10 + 1 + 3);
        Due.is("P15 too dear: the worth", x.mark(0, 0, 6, 2), 20);
        Due.is("P15 no cells: the mark", x.mark(0, 0, 0, 0), 0);
        Due.is("P15 no cells: the cost", x.mark(0, 0, 0, 1), 10 + 1 + 3);
        Due.is("P15 no cells: the worth", x.mark(0, 0, 0, 2), 0);
    }

    /** "worth: .. of pays, waits what all CELLS of the MARK are, together": beyond 99, up to 7 times 99. */
    private static void theWorthOfAllCellsTogether() {
        BiteFirst x = Table.pair(10, 63, 0, 99);
        Due.law(x, "worth", "worth", "0");
        Due.is("P15 pays 7 times 99", x.mark(0, 0, 6, 1), 693);
        Due.is("P15 likes each of 99", x.mark(0, 0, 6, 2), 693);
        Due.is("P15 pays once 99", x.mark(0, 0, 15, 1), 99);
        x.put(0, 11, 1022);
        Due.is("P15 pays for none", x.mark(0, 0, 0, 1), 0);
        x.put(0, 11, 0b111);
        Due.is("P15 pays for what is LEFT alone", x.mark(0, 0, 6, 1), 297);
        Due.law(x, "0", "worth", "worth");
        Due.is("P17 waits for all together", x.best(0, 1), 297);
        Due.law(x, "0", "worth - (worth = 99)", "worth");
        Due.is("P17 waits for all together, less by 1 each", x.best(0, 0), NONE);
    }

    /** "all told as it is ahead of it": LEFT still has the CELLS of the MARK. */
    private static void toldAsItIsAhead() {
        BiteFirst x = Table.pair(0, 0b111, 0, 9);
        Due.law(x, "left", "left", "0");
        Due.is("P16 ten are LEFT ahead of it", x.bite(0, 0, 6), 10);
        Due.is("P16 three of 10 each", x.told(0, 4), 30);
        Due.is("P16 seven are LEFT ahead of it", x.bite(0, 0, 9), 7);
        Due.is("P16 three of 7 each", x.told(0, 4), 51);
        Due.is("P16 one pays just that", x.told(0, 3), 83);
    }

    // ---- promise 16

    private static void biteRefuses() {
        new Twin("P16 bite", Table::laid)
            .is("-5: no such EATER", -5, x -> x.bite(-1, 1, 6), x -> x.bite(3, 1, 6), x -> x.bite(5, 1, 6),
                x -> x.bite(LEAST, 1, 6), x -> x.bite(MOST, 1, 6))
            .is("-5: no such GOOD", -5, x -> x.bite(0, -1, 6), x -> x.bite(0, 3, 6), x -> x.bite(0, 6, 6),
                x -> x.bite(0, LEAST, 6), x -> x.bite(0, MOST, 6))
            .is("-7: PLACE (0 .. 15)", -7, x -> x.bite(0, 1, -1), x -> x.bite(0, 1, 16), x -> x.bite(0, 1, LEAST),
                x -> x.bite(0, 1, MOST))
            .is("STATE: the MARK has no CELLS", STATE, x -> x.bite(0, 0, 6), x -> x.bite(0, 1, 0), x -> x.bite(2, 1, 5),
                x -> x.bite(2, 1, 9))
            .areAlike();
        new Twin("P16 bite, poor", EdgesBitesTest::poor)
            .is("FULL: it costs more", FULL, x -> x.bite(0, 1, 6), x -> x.bite(0, 2, 15))
            .areAlike();
    }

    private static void biteRefusesInOrder() {
        new Twin("P16 bite, poor", EdgesBitesTest::poor)
            .is("-5 ahead of -7", -5, x -> x.bite(3, 0, 16), x -> x.bite(-1, 0, -1), x -> x.bite(0, 3, 16),
                x -> x.bite(0, -1, -1))
            .is("-7 ahead of STATE and FULL", -7, x -> x.bite(0, 0, 16), x -> x.bite(0, 0, -1))
            .is("STATE ahead of FULL", STATE, x -> x.bite(0, 0, 6), x -> x.bite(0, 0, 0))
            .areAlike();
    }

    /** "It CAN BE, if the MARK .. costs no more than one's PURSE"; "the PURSE is so much less". */
    private static void biteForAllOneHas() {
        BiteFirst x = Table.pair(0, 0b11, 0, 9);
        x.lend(0, 1, 3);
        Due.is("P16 too dear by 1", x.bite(0, 0, 6), FULL);
        Due.is("P16 nothing is paid", x.told(0, 3), 3);
        Due.is("P16 nothing is had", x.told(0, 4), 0);
        Due.is("P16 nothing is gone", x.part(0, 11), 1023);
        x.lend(0, 1, 4);
        Due.is("P16 all one has", x.bite(0, 0, 6), 4);
        Due.is("P16 nothing more in the PURSE", x.told(0, 3), 0);
        Due.is("P16 it is had", x.told(0, 4), 18);
        Due.is("P16 it is gone", x.part(0, 11), 1020);
        x.lend(0, 1, 9999);
        Due.is("P16 of the largest PURSE", x.bite(0, 0, 14), 4);
        Due.is("P16 4 less than 9999", x.told(0, 3), 9995);
    }

    /** "It costs what one PAYS (0, too)". */
    private static void biteForNothing() {
        BiteFirst x = Table.pair(20, 1, 7, 9);
        x.lend(0, 1, 0);
        Due.is("P16 for nothing, no money", x.bite(0, 0, 6), 0);
        Due.is("P16 for nothing", x.told(0, 3), 0);
        Due.is("P16 for nothing", x.told(0, 4), 9);
        Due.is("P16 for nothing, no cells", x.bite(0, 0, 6), STATE);
        Due.is("P17 for nothing, no money", x.best(0, 0), 7);
        x.put(0, 10, 6);
        Due.is("P16 no longer for nothing", x.bite(0, 0, 7), FULL);
    }

    /** "comes to what one HAS HAD (9999 at most)". */
    private static void hasHad9999AtMost() {
        BiteFirst x = Table.pair(0, 63, 0, 99);
        Due.law(x, "0", "99", "0");
        for (int k = 1; k <= 16; k++) {
            x.put(0, 11, 1023);
            x.bite(0, 0, 6);
        }
        Due.is("P16 16 times 594", x.told(0, 4), 9504);
        x.image();
        x.put(0, 11, 0b11111);
        x.put(0, 10, 0);
        Due.law(x, "0", "worth", "0");
        x.put(0, 4, 98);
        x.bite(0, 0, 6);
        Due.is("P16 9998 is below it", x.told(0, 4), 9998);
        x.back();
        x.put(0, 11, 0b11111);
        x.bite(0, 0, 6);
        Due.is("P16 just 9999", x.told(0, 4), 9999);
        x.put(0, 11, 1);
        Due.is("P16 beyond 9999: the bite is done", x.bite(0, 0, 6), 0);
        Due.is("P16 9999 at most", x.told(0, 4), 9999);
        Due.is("P16 beyond 9999: the cell is gone", x.part(0, 11), 0);
        x.back();
        x.put(0, 11, 0b111111);
        x.bite(0, 0, 6);
        Due.is("P16 9999 at most, at once", x.told(0, 4), 9999);
        x.put(0, 11, 1023);
        Due.is("P15 a WORTH is what it is", x.mark(0, 0, 6, 2), 594);
        Due.is("P17 a GAIN is what it is", x.best(0, 1), 594);
        Due.is("P18 GAINS are what they are", x.orderly(1), 594);
    }

    // ---- promise 17

    private static void bestRefuses() {
        new Twin("P17 best", Table::laid)
            .is("-5: no such EATER", -5, x -> x.best(-1, 0), x -> x.best(3, 0), x -> x.best(5, 1), x -> x.best(LEAST, 0),
                x -> x.best(MOST, 0))
            .is("-7: what", -7, x -> x.best(0, -1), x -> x.best(0, 2), x -> x.best(0, LEAST), x -> x.best(0, MOST))
            .is("-5 ahead of -7", -5, x -> x.best(3, 2), x -> x.best(-1, -1))
            .is("the first eater's", 207, x -> x.best(0, 0))
            .is("the last eater's", 209, x -> x.best(2, 0))
            .is("the last eater's", 99 + 6 - 2, x -> x.best(2, 1))
            .areAlike();
    }

    private static void hasNoBest(String sentence, BiteFirst x) {
        Due.is("P17 " + sentence + ": -1", x.best(0, 0), NONE);
        Due.is("P17 " + sentence + ": 0", x.best(0, 1), 0);
        Due.is("P18 " + sentence + ": the order is there", x.orderly(0), 1);
        Due.is("P18 " + sentence + ": no gains", x.orderly(1), 0);
        Due.is("P28 " + sentence + ": it tells nothing", x.film(0, 13), 0);
        Due.is("P28 " + sentence + ": a day without bites", x.judge(0), NONE);
    }

    /** "(what 0; -1: none), its GAIN (1; 0)"; "does its BEST BITE, if there is one". */
    private static void bestOfNone() {
        BiteFirst x = Table.bare();
        x.eater(0, 1);
        hasNoBest("no GOODS", x);
        x.good(0, 9);
        x.put(0, 11, 0);
        hasNoBest("nothing is LEFT", x);
        BiteFirst hard = Table.pair(20, 63, 4, 99);
        hasNoBest("no SHAPE", hard);
        BiteFirst poor = Table.pair(0, 1, 4, 99);
        poor.lend(0, 1, 1);
        hasNoBest("too dear by 1", poor);
        poor.lend(0, 1, 2);
        Due.is("P17 all one has", poor.best(0, 0), 6);
        Due.is("P17 all one has", poor.best(0, 1), 97);
        hasNoBest("GAIN -1", Table.pair(0, 1, 0, 1));
        BiteFirst even = Table.pair(0, 1, 0, 2);
        Due.is("P17 GAIN 0 is a GAIN", even.best(0, 0), 6);
        Due.is("P17 GAIN 0 is a GAIN", even.best(0, 1), 0);
        Due.is("P28 GAIN 0 is a GAIN", even.film(0, 13), 10);
    }

    private static void bestAtTheFirstAndLast() {
        BiteFirst x = Table.pair(10, 32, 0, 9);
        x.put(0, 11, 1);
        Due.is("P17 the first good, the first place", x.best(0, 0), 0);
        x.lend(0, 0, 1);
        for (int g = 1; g < 6; g++) {
            x.good(0, 9);
            x.put(g, 11, 0);
        }
        x.put(0, 11, 0);
        x.put(5, 11, 512);
        Due.is("P17 the last good, a wide one's place", x.best(0, 0), 514);
        for (int e = 1; e < 5; e++) {
            x.eater(0, 1);
        }
        Due.is("P17 the last eater, the last good, the last place", x.best(4, 0), 515);
        Due.is("P17 its GAIN", x.best(4, 1), 7);
        x.put(5, 11, 0);
        x.lend(0, 0, 32);
        for (int g = 0; g < 6; g++) {
            x.put(g, 11, 1);
            Due.is("P17 the first place of GOOD " + g, x.best(0, 0), 100 * g);
            Due.is("P18 the first place of GOOD " + g, x.orderly(1), 7);
            Due.is("P19 the first place of GOOD " + g, x.duel(0, 1, 1, 1), 100 * g);
            Due.is("P28 the first place of GOOD " + g, x.film(0, 1), 1);
            Due.is("P28 the first place of GOOD " + g, x.ends(0, g, 2), 0);
            x.put(g, 11, 0);
        }
    }

    /** "that of most GAIN, of like ones the first (by GOODS, then PLACES)". */
    private static void bestOfLikeOnes() {
        BiteFirst x = Table.pair(0, 1, 0, 9);
        x.good(0, 9);
        Due.is("P17 of like ones the first good, place", x.best(0, 0), 6);
        x.put(0, 0, 8);
        Due.is("P17 of like ones the first place", x.best(0, 0), 7);
        x.put(0, 11, 1);
        Due.is("P17 by 1 more, the second good", x.best(0, 0), 106);
        x.put(0, 0, 9);
        Due.is("P17 by GOODS, then PLACES", x.best(0, 0), 6);
        x.put(1, 9, 10);
        Due.is("P17 by 1 more, the last place", x.best(0, 0), 115);
        x.put(0, 11, 1 << 9);
        x.put(0, 9, 10);
        Due.is("P17 a good ahead at a place behind", x.best(0, 0), 15);
        // A GAIN is WORTH less what it costs: more worth by as much as it is dearer is alike.
        BiteFirst y = Table.pair(0, 0b11, 0, 2);
        y.put(0, 11, 0b111);
        Due.is("P17 alike, of one cell and of two", y.best(0, 0), 5);
        y.put(0, 1, 3);
        Due.is("P17 two cells, by 1 more", y.best(0, 0), 6);
        y.put(0, 0, 1);
        Due.is("P17 two other cells, by 1 more", y.best(0, 0), 7);
    }

    /** "whose GAIN is no less than waits". */
    private static void bestThatWaits() {
        BiteFirst x = Table.pair(0, 1, 0, 9);
        Due.law(x, "2", "worth", "7");
        Due.is("P17 no less than waits", x.best(0, 0), 6);
        Due.is("P17 no less than waits", x.best(0, 1), 7);
        Due.law(x, "2", "worth", "8");
        hasNoBest("less than waits by 1", x);
        x.put(0, 4, 10);
        Due.is("P17 the one that is no less", x.best(0, 0), 10);
        // The dearest waits, of the others the first of most is the best; what waits, one may bite all the same.
        Due.law(x, "2", "worth", "(worth = 10) * 99");
        Due.is("P17 the dearest waits", x.best(0, 0), 6);
        Due.is("P15 what waits has its mark", x.mark(0, 0, 10, 2), 10);
        Due.is("P16 what waits can be", x.bite(0, 0, 10), 2);
        BiteFirst y = Table.pair(0, 63, 0, 99);
        Due.law(y, "0", "99", "594");
        Due.is("P17 as much as can be", y.best(0, 0), 6);
        Due.law(y, "0", "99", "595");
        hasNoBest("more than can be", y);
        Due.law(y, "0", "99", "9999");
        hasNoBest("999", y);
    }

    // ---- promise 18

    private static void orderlyRefuses() {
        new Twin("P18 orderly", Table::laid)
            .is("BAD", BAD, x -> x.orderly(-1), x -> x.orderly(2), x -> x.orderly(LEAST), x -> x.orderly(MOST))
            .is("all bite in thought alone", 123, x -> x.orderly(0))
            .areAlike();
        new Twin("P18 orderly, nobody", Table::bare)
            .is("BAD ahead of none", BAD, x -> x.orderly(-1), x -> x.orderly(2))
            .is("-1: no EATERS", NONE, x -> x.orderly(0))
            .is("these: 0", 0, x -> x.orderly(1))
            .areAlike();
    }

    /** "(as digits: 1 more than each, the first one highest)": of one eater to five. */
    private static void ordersOfFewAndMany() {
        int[] want = {1, 12, 123, 1234, 12345};
        BiteFirst x = Table.bare();
        x.good(0, 9);
        for (int e = 0; e < 5; e++) {
            x.eater(0, 1);
            Due.is("P18 of like ones the first, of " + (e + 1), x.orderly(0), want[e]);
            Due.is("P18 the gains of " + (e + 1), x.orderly(1), 7 * (e + 1));
        }
        // One cell is LEFT, and of MORE one likes it the better: the best order has that one first.
        int[] first = {12345, 21345, 31245, 41235, 51234};
        for (int likes = 0; likes < 5; likes++) {
            BiteFirst y = Table.bare();
            y.good(0, 9);
            y.put(0, 11, 1 << 9);
            for (int e = 0; e < 5; e++) {
                y.eater(e == likes ? 39 : 38, 1);
            }
            Due.is("P18 the one first, " + likes, y.orderly(0), first[likes]);
            Due.is("P18 its gain", y.orderly(1), 16);
        }
        // The last order of all: each likes what the ones ahead of it leave.
        BiteFirst z = Table.bare();
        z.good(0, 0);
        for (int e = 0; e < 5; e++) {
            z.eater(30 + e, 1);
        }
        Due.law(z, "0", "left", "0");
        Due.is("P18 all orders alike", z.orderly(0), 12345);
        Due.is("P18 10, 9, 8, 7, 6 and 0 .. 4 more", z.orderly(1), 50);
        Due.law(z, "0", "left * more", "0");
        Due.is("P18 the last order", z.orderly(0), 54321);
        Due.is("P18 40, 27, 16, 7, 0 and 4 .. 0 more", z.orderly(1), 100);
    }

    /** "of like ones the first". */
    private static void ordersOfLikeGains() {
        BiteFirst x = Table.bare();
        x.good(0, 9);
        x.put(0, 11, 0b11);
        for (int e = 0; e < 3; e++) {
            x.eater(e == 0 ? 0 : 32, 1);
        }
        Due.is("P18 231 and 321 are alike", x.orderly(0), 231);
        Due.is("P18 9 each", x.orderly(1), 18);
        x.put(0, 11, 0);
        Due.is("P18 all are alike", x.orderly(0), 123);
    }

    private static void ordersWithoutBites() {
        BiteFirst x = Table.bare();
        for (int e = 0; e < 5; e++) {
            x.eater(0, 1);
        }
        Due.is("P18 no GOODS", x.orderly(0), 12345);
        Due.is("P18 no GOODS", x.orderly(1), 0);
        x.good(0, 9);
        for (int e = 0; e < 4; e++) {
            x.lend(e, 1, 1);
        }
        Due.is("P18 one alone bites", x.orderly(0), 12345);
        Due.is("P18 one alone bites", x.orderly(1), 7);
        Due.law(x, "0", "worth", "9");
        Due.is("P18 no less than waits", x.orderly(1), 45);
        Due.law(x, "0", "worth", "10");
        Due.is("P18 all wait", x.orderly(0), 12345);
        Due.is("P18 all wait", x.orderly(1), 0);
    }

    // ---- promise 19

    private static void duelRefuses() {
        new Twin("P19 duel", Table::laid)
            .is("-1000005: no such EATER", NO_DUEL, x -> x.duel(-1, 0, 1, 0), x -> x.duel(3, 0, 1, 0),
                x -> x.duel(5, 0, 1, 0), x -> x.duel(LEAST, 0, 1, 0), x -> x.duel(MOST, 0, 1, 0))
            .is("-1000005: no such other", NO_DUEL, x -> x.duel(0, -1, 1, 0), x -> x.duel(0, 3, 1, 0),
                x -> x.duel(0, 5, 1, 0), x -> x.duel(0, LEAST, 1, 0), x -> x.duel(0, MOST, 1, 0))
            .is("-1000005: one and the same", NO_DUEL, x -> x.duel(0, 0, 1, 0), x -> x.duel(2, 2, 2, 1),
                x -> x.duel(3, 3, 1, 0), x -> x.duel(-1, -1, 1, 0))
            .is("-1000007: n", DUEL_BAD, x -> x.duel(0, 1, 0, 0), x -> x.duel(0, 1, 3, 0), x -> x.duel(0, 1, -1, 0),
                x -> x.duel(0, 1, LEAST, 0), x -> x.duel(0, 1, MOST, 0))
            .is("-1000007: what", DUEL_BAD, x -> x.duel(0, 1, 1, -1), x -> x.duel(0, 1, 1, 2), x -> x.duel(0, 1, 2, LEAST),
                x -> x.duel(0, 1, 2, MOST))
            .is("a duel is in thought", 207, x -> x.duel(0, 2, 1, 1))
            .is("a duel is in thought", 99 + 30 - 3, x -> x.duel(0, 2, 1, 0))
            .areAlike();
    }

    private static void duelRefusesInOrder() {
        new Twin("P19 duel", Table::laid)
            .is("-1000005 ahead of -1000007: n", NO_DUEL, x -> x.duel(3, 0, 0, 0), x -> x.duel(0, 3, 3, 0),
                x -> x.duel(1, 1, 0, 0))
            .is("-1000005 ahead of -1000007: what", NO_DUEL, x -> x.duel(-1, 0, 1, 2), x -> x.duel(0, -1, 1, -1),
                x -> x.duel(1, 1, 2, 2))
            .areAlike();
    }

    private static BiteFirst two(int jaw, int otherJaw) {
        BiteFirst x = Table.pair(0, jaw, 0, 9);
        x.eater(0, otherJaw);
        return x;
    }

    private static void duelIs(String sentence, BiteFirst x, int turns, int comesTo, int bite) {
        Due.is("P19 " + sentence + ": what it comes to, " + turns, x.duel(0, 1, turns, 0), comesTo);
        Due.is("P19 " + sentence + ": the bite now, " + turns, x.duel(0, 1, turns, 1), bite);
    }

    /** "if none CAN BE: 0 less that of the other and the one"; "(1; -1: none CAN BE)"; "none: 0". */
    private static void duelsOfNone() {
        BiteFirst x = Table.bare();
        x.eater(0, 1);
        x.eater(0, 0b11);
        duelIs("no GOODS", x, 1, 0, NONE);
        duelIs("no GOODS", x, 2, 0, NONE);
        BiteFirst y = two(1, 0b11);
        y.put(0, 11, 0);
        duelIs("nothing is LEFT", y, 1, 0, NONE);
        duelIs("nothing is LEFT", y, 2, 0, NONE);
        y.put(0, 11, 1);
        duelIs("one cell is LEFT", y, 1, 7, 6);
        duelIs("one cell is LEFT, none for the other", y, 2, 7, 6);
        y.put(0, 11, 1023);
        y.lend(0, 1, 1);
        duelIs("too dear by 1 for the one", y, 1, 0, NONE);
        duelIs("too dear by 1 for the one, not for the other", y, 2, -14, NONE);
        y.lend(1, 1, 1);
        duelIs("too dear for both", y, 2, 0, NONE);
        y.lend(0, 1, 2);
        duelIs("too dear for the other, all the one has", y, 2, 7, 6);
    }

    /** "what it comes to (what 0; below 0, too)"; one bites, if any CAN BE, whether it waits or not. */
    private static void duelsBelow0() {
        BiteFirst x = two(1, 1);
        for (int c = 0; c < 10; c++) {
            x.put(0, c, 1);
        }
        duelIs("the least loss", x, 1, -1, 6);
        duelIs("loss and loss", x, 2, 0, 6);
        Due.law(x, "999", "0", "999");
        x.lend(0, 1, 999);
        x.lend(1, 1, 998);
        duelIs("the largest loss", x, 1, -999, 6);
        duelIs("the largest loss, none for the other", x, 2, -999, 6);
        Due.is("P19 none, less the other's loss", x.duel(1, 0, 2, 0), 999);
        Due.is("P19 none, less the other's loss", x.duel(1, 0, 2, 1), NONE);
        Due.is("P19 none", x.duel(1, 0, 1, 0), 0);
        BiteFirst hired = Table.pair(50, 1, 0, 0);
        hired.eater(50, 1);
        Due.law(hired, "999", "0", "0");
        hired.lend(0, 1, 1002);
        hired.lend(1, 1, 1002);
        duelIs("1002 for nothing", hired, 1, -1002, 6);
        duelIs("1002 for nothing, both", hired, 2, 0, 6);
    }

    /** "the most of these, of like ones the first" (by GOODS, then PLACES). */
    private static void duelsOfLikeOnes() {
        BiteFirst x = two(1, 1);
        x.good(0, 9);
        duelIs("all alike", x, 1, 7, 6);
        duelIs("all alike", x, 2, 0, 6);
        x.put(1, 9, 10);
        duelIs("by 1 more, the last", x, 1, 8, 115);
        duelIs("by 1 more, the last", x, 2, 1, 115);
        x.put(0, 4, 10);
        duelIs("a good ahead", x, 1, 8, 10);
        duelIs("a good ahead, the other takes the last", x, 2, 0, 10);
        x.put(0, 5, 10);
        duelIs("a place ahead", x, 1, 8, 10);
    }

    private static void duelsAtTheFirstAndLast() {
        BiteFirst x = Table.bare();
        for (int g = 0; g < 6; g++) {
            x.good(0, 9);
            x.put(g, 11, 0);
        }
        for (int e = 0; e < 5; e++) {
            x.eater(e == 0 ? 10 : 0, e == 0 ? 32 : 1);
        }
        x.put(0, 11, 1);
        Due.is("P19 the first good, the first place", x.duel(0, 4, 1, 1), 0);
        Due.is("P19 the first good, the other's place", x.duel(4, 0, 1, 1), 6);
        x.put(0, 11, 0);
        x.put(5, 11, 512);
        Due.is("P19 the last eater, good, place", x.duel(4, 0, 2, 1), 515);
        Due.is("P19 the last one comes second", x.duel(0, 4, 2, 1), 509);
    }

    // ---- promise 20

    private static void fewestRefuses() {
        new Twin("P20 fewest", Table::laid)
            .is("-5: no such EATER", -5, x -> x.fewest(-1, 0), x -> x.fewest(3, 0), x -> x.fewest(5, 0),
                x -> x.fewest(LEAST, 0), x -> x.fewest(MOST, 0))
            .is("-5: no such GOOD", -5, x -> x.fewest(0, -1), x -> x.fewest(0, 3), x -> x.fewest(0, 6),
                x -> x.fewest(0, LEAST), x -> x.fewest(0, MOST))
            .is("one by one", 10, x -> x.fewest(2, 2))
            .areAlike();
    }

    private static void fewestIs(String sentence, int kindMore, int jaw, int softness, int left, int want) {
        BiteFirst x = Table.pair(kindMore, jaw, softness, 9);
        x.put(0, 11, left);
        x.lend(0, 1, 0);
        Due.is("P20 " + sentence, x.fewest(0, 0), want);
        Due.is("P21 " + sentence, x.soonest(0, 1), want);
        Due.is("P21 " + sentence + ", who", x.soonest(0, 0), want < 0 ? NONE : 0);
    }

    /** "The fewest BITES .. by which nothing is LEFT .., whatever they cost; -1: it can't be". */
    private static void fewestAtTheEdges() {
        fewestIs("nothing is LEFT", 0, 1, 0, 0, 0);
        fewestIs("nothing is LEFT, no SHAPE", 20, 63, 4, 0, 0);
        fewestIs("no SHAPE", 20, 63, 4, 1023, NONE);
        fewestIs("no SHAPE for one cell", 49, 63, 0, 512, NONE);
        fewestIs("soft enough", 20, 63, 5, 1023, 2);
        fewestIs("the first cell", 0, 1, 0, 1, 1);
        fewestIs("the last cell", 0, 32, 0, 512, 1);
        fewestIs("the first by the highest bit", 0, 32, 0, 1, 1);
        fewestIs("the last by the lowest bit", 0, 1, 0, 512, 1);
        fewestIs("the first by bit 6", 10, 32, 0, 1, 1);
        fewestIs("the first and the last", 0, 63, 0, 513, 2);
        fewestIs("seven of seven", 10, 63, 0, 127, 1);
        fewestIs("seven of eight", 10, 63, 0, 255, 2);
        fewestIs("six of six", 0, 63, 0, 0b1111110000, 1);
        fewestIs("six of seven", 0, 63, 0, 0b1111111000, 2);
        fewestIs("all, one by one", 0, 1, 0, 1023, 10);
        fewestIs("all, one by one, by the highest bit", 0, 32, 0, 1023, 10);
        fewestIs("all, by a nibbler", 39, 63, 0, 1023, 10);
        fewestIs("all, by two hired bits", 53, 63, 0, 1023, 5);
        fewestIs("all, by three hired bits", 54, 63, 0, 1023, 4);
        fewestIs("what overlaps", 0, 0b101, 0, 0b10101, 2);
        fewestIs("half in, half out", 0, 0b100001, 0, 1023, 5);
    }

    // ---- promise 21

    private static void soonestRefuses() {
        new Twin("P21 soonest", Table::laid)
            .is("-5: no such GOOD", -5, x -> x.soonest(-1, 0), x -> x.soonest(3, 0), x -> x.soonest(6, 1),
                x -> x.soonest(LEAST, 0), x -> x.soonest(MOST, 0))
            .is("-7: what", -7, x -> x.soonest(0, -1), x -> x.soonest(0, 2), x -> x.soonest(0, LEAST), x -> x.soonest(0, MOST))
            .is("-5 ahead of -7", -5, x -> x.soonest(-1, -1), x -> x.soonest(3, 2))
            .is("three by three", 4, x -> x.soonest(2, 1))
            .is("by the wide one", 1, x -> x.soonest(2, 0))
            .areAlike();
    }

    /** "The EATER by whom that is fewest, of like ones the first ..; -1: none". */
    private static void soonestAtTheEdges() {
        BiteFirst x = Table.bare();
        x.good(4, 9);
        Due.is("P21 no EATERS", x.soonest(0, 0), NONE);
        Due.is("P21 no EATERS, how many", x.soonest(0, 1), NONE);
        x.eater(20, 63);
        x.eater(40, 63);
        Due.is("P21 none can", x.soonest(0, 0), NONE);
        Due.is("P21 none can, how many", x.soonest(0, 1), NONE);
        x.eater(0, 1);
        Due.is("P21 one alone can", x.soonest(0, 0), 2);
        Due.is("P21 one alone can, how many", x.soonest(0, 1), 10);
        x.eater(30, 1);
        Due.is("P21 of like ones the first", x.soonest(0, 0), 2);
        x.eater(0, 0b11);
        Due.is("P21 the last is fewer", x.soonest(0, 0), 4);
        Due.is("P21 the last is fewer, how many", x.soonest(0, 1), 5);
        x.put(0, 11, 0b1010101010);
        Due.is("P21 as few: the first", x.soonest(0, 0), 2);
        Due.is("P21 as few, how many", x.soonest(0, 1), 5);
        x.put(0, 11, 0);
        Due.is("P21 nothing is LEFT: the first, without a SHAPE", x.soonest(0, 0), 0);
        Due.is("P21 nothing is LEFT, how many", x.soonest(0, 1), 0);
        BiteFirst y = Table.bare();
        y.good(4, 9);
        y.put(0, 11, 0);
        Due.is("P21 nothing is LEFT, no EATERS", y.soonest(0, 0), NONE);
        Due.is("P21 nothing is LEFT, no EATERS, how many", y.soonest(0, 1), NONE);
    }

    // ---- promise 22

    private static void hireRefuses() {
        new Twin("P22 hire", Table::laid)
            .is("-5: no such EATER", -5, x -> x.hire(-1, 0), x -> x.hire(3, 0), x -> x.hire(5, 1), x -> x.hire(LEAST, 0),
                x -> x.hire(MOST, 0))
            .is("-7: what", -7, x -> x.hire(0, -1), x -> x.hire(0, 2), x -> x.hire(0, LEAST), x -> x.hire(0, MOST))
            .is("-5 ahead of -7", -5, x -> x.hire(3, 2), x -> x.hire(-1, -1))
            .is("five teeth are only asked for", 5, x -> x.hire(0, 0))
            .is("their gain", 99 + 120 - 9, x -> x.hire(0, 1))
            .areAlike();
    }

    private static void hires(String sentence, BiteFirst x, int teeth, int gain) {
        Due.is("P22 " + sentence + ": how many teeth", x.hire(0, 0), teeth);
        Due.is("P22 " + sentence + ": the GAIN", x.hire(0, 1), gain);
    }

    /** "How many teeth (1 .. 5): MORE 0, 2, 4, 6, 8". */
    private static void hireAtTheEdges() {
        for (int teeth = 1; teeth <= 5; teeth++) {
            BiteFirst x = Table.pair(9, 1, 0, 0);
            Due.law(x, "0", "(more = " + (2 * teeth - 2) + ") * 9", "0");
            hires("by MORE " + (2 * teeth - 2), x, teeth, 9 * teeth - 3);
            Due.law(x, "0", "(more = " + (2 * teeth - 1) + ") * 9", "0");
            hires("not by MORE " + (2 * teeth - 1), x, NONE, teeth == 5 ? 9 : 0);
        }
        BiteFirst empty = Table.bare();
        empty.eater(0, 1);
        hires("no GOODS", empty, NONE, 0);
        BiteFirst x = Table.pair(0, 63, 0, 9);
        hires("six own teeth", x, NONE, 42);
        x.lend(0, 0, 31);
        hires("five own teeth", x, NONE, 35);
        x.lend(0, 0, 15);
        hires("four own teeth", x, 5, 32);
        x.lend(0, 1, 12);
        hires("too dear by 1 for five", x, NONE, 28);
        x.lend(0, 1, 13);
        hires("all one has, for five", x, 5, 32);
        x.lend(0, 1, 0);
        hires("no money", x, NONE, 0);
    }

    /** "of like ones the least". */
    private static void hireOfLikeOnes() {
        for (int cells = 1; cells <= 5; cells++) {
            BiteFirst x = Table.pair(20, 1, 4, 9);
            x.put(0, 11, (1 << cells) - 1);
            hires("of like ones the least, of " + cells + " cells", x, cells, 7 * cells - 3);
        }
    }

    /** "if more than as one is (none: 0)"; "that (1; as it is)". */
    private static void hireIfMore() {
        BiteFirst x = Table.pair(0, 1, 0, 0);
        Due.law(x, "0", "9", "0");
        x.put(0, 11, 1);
        hires("by 3 less: none", x, NONE, 9);
        BiteFirst y = Table.pair(9, 1, 0, 0);
        y.put(0, 11, 1);
        Due.law(y, "0", "9 + (more = 0) * 3", "0");
        hires("just as much: none", y, NONE, 9);
        Due.law(y, "0", "9 + (more = 0) * 4", "0");
        hires("by 1 more", y, 1, 10);
        // As one is, one has no best bite, which is 0.
        BiteFirst z = Table.pair(20, 1, 4, 3);
        z.put(0, 11, 1);
        Due.law(z, "0", "worth", "0");
        hires("GAIN 0 is no more than none", z, NONE, 0);
        z.put(0, 0, 4);
        hires("GAIN 1 is more than none", z, 1, 1);
        z.put(0, 0, 2);
        hires("no GAIN", z, NONE, 0);
        BiteFirst w = Table.pair(0, 1, 0, 9);
        Due.law(w, "0", "worth", "42");
        hires("waits, five teeth: just so much", w, 5, 42);
        Due.law(w, "0", "worth", "43");
        hires("waits for more", w, NONE, 0);
        BiteFirst own = Table.pair(59, 1, 0, 9);
        hires("as one is: five teeth already", own, NONE, 45 - 10 - 3);
    }
}
