/** Promises 15 to 22: bites, the best of them, orders, duels, the fewest bites, dentures. */
public final class BitesTest {

    private static final int NONE = -1, BAD = -2, STATE = -3, FULL = -4;

    public static void main(String[] args) {
        marks();
        costsAndWorths();
        bites();
        bitesOfKinds();
        bests();
        bestsAtTheEdge();
        bestsThatWait();
        orders();
        ordersByHand();
        ordersWithoutMoney();
        duels();
        duelsByHand();
        duelsWithoutMoney();
        fewest();
        soonest();
        hires();
        asksChangeNothing();
        aFullTable();
        Due.end("BitesTest");
    }

    private static BiteFirst pair(int kindMore, int jaw, int soft, int worth) {
        BiteFirst x = new BiteFirst();
        x.eater(kindMore, jaw);
        x.good(soft, worth);
        return x;
    }

    private static void marks() {
        BiteFirst x = pair(0, 0b101101, 0, 1);
        for (int at = 1; at <= 6; at++) {
            Due.is("P15 mark at " + at, x.mark(0, 0, at, 0), 0b101101 >> (6 - at));
        }
        Due.is("P15 mark at 0", x.mark(0, 0, 0, 0), 0);
        Due.is("P15 mark at 3", x.mark(0, 0, 3, 0), 0b101);
        for (int at = 6; at <= 15; at++) {
            Due.is("P15 mark at " + at, x.mark(0, 0, at, 0), 0b101101 << (at - 6) & 1023);
        }
        x.put(0, 11, 0b1110001101);
        Due.is("P15 of what is left", x.mark(0, 0, 6, 0), 0b001101);
        Due.is("P15 of what is left", x.mark(0, 0, 8, 0), 0b0010000100);
        BiteFirst y = pair(10, 32, 0, 1);
        Due.is("P15 bit 6 at 0", y.mark(0, 0, 0, 0), 1);
        Due.is("P15 bits 5 and 6 at 1", y.mark(0, 0, 1, 0), 3);
        Due.is("P15 bit 5 at 10", y.mark(0, 0, 10, 0), 512);
        Due.is("P15 none at 11", y.mark(0, 0, 11, 0), 0);
    }

    private static void costsAndWorths() {
        BiteFirst x = pair(7, 0b111, 3, 10);
        for (int c = 0; c < 10; c++) {
            x.put(0, c, 10 * c + 1);
        }
        Due.is("P15 cost", x.mark(0, 0, 8, 1), 6);
        Due.is("P15 worth", x.mark(0, 0, 8, 2), 21 + 31 + 41);
        Due.is("P15 cost of two", x.mark(0, 0, 14, 1), 4);
        Due.is("P15 worth of two", x.mark(0, 0, 14, 2), 81 + 91);
        Due.is("P15 cost of none", x.mark(0, 0, 0, 1), 0);
        Due.is("P15 worth of none", x.mark(0, 0, 0, 2), 0);
        Due.law(x, "worth", "cells * 10 + worth", "0");
        Due.is("P15 pays the worth of all", x.mark(0, 0, 8, 1), 93);
        Due.is("P15 likes 51, 61, 71", x.mark(0, 0, 8, 2), 183);
        Due.is("P15 likes 99 at most each", x.mark(0, 0, 14, 2), 99 + 99);
        Due.law(x, "left * 100 + more", "left + soft", "0");
        Due.is("P15 ten are left", x.mark(0, 0, 8, 1), 999);
        x.put(0, 11, 0b0100011100);
        Due.is("P15 four are left", x.mark(0, 0, 8, 1), 407);
        Due.is("P15 four are left, soft", x.mark(0, 0, 8, 2), 21);
        x.set(31);
        Due.law(x, "day", "day - 20", "0");
        Due.is("P15 day", x.mark(0, 0, 8, 1), 31);
        Due.is("P15 day", x.mark(0, 0, 8, 2), 33);
    }

    private static void bites() {
        BiteFirst x = pair(0, 0b11, 0, 5);
        x.eater(0, 1);
        Due.is("P16 bite", x.bite(0, 0, 8), 4);
        Due.is("P16 had", x.told(0, 4), 10);
        Due.is("P16 purse", x.told(0, 3), 96);
        Due.is("P16 left", x.part(0, 11), 1023 - 12);
        Due.is("P16 the other's purse", x.told(1, 3), 100);
        Due.is("P16 the mark has no cells", x.bite(0, 0, 8), STATE);
        Due.is("P16 nothing at 0", x.bite(0, 0, 0), STATE);
        Due.is("P16 half a mark", x.bite(0, 0, 7), 2);
        Due.is("P16 had", x.told(0, 4), 15);
        x.lend(0, 1, 3);
        Due.is("P16 too dear", x.bite(0, 0, 12), FULL);
        Due.is("P16 purse stays", x.told(0, 3), 3);
        Due.is("P16 had stays", x.told(0, 4), 15);
        Due.is("P16 left stays", x.part(0, 11), 1023 - 14);
        Due.is("P16 no cells ahead of too dear", x.bite(0, 0, 8), STATE);
        x.lend(0, 1, 4);
        Due.is("P16 all one has", x.bite(0, 0, 12), 4);
        Due.is("P16 an empty purse", x.told(0, 3), 0);
        Due.law(x, "0", "1", "0");
        Due.is("P16 for nothing", x.bite(0, 0, 14), 0);
        Due.is("P16 had", x.told(0, 4), 27);
        Due.is("P16 eater 2", x.bite(2, 0, 6), -5);
        Due.is("P16 eater -1", x.bite(-1, 0, 6), -5);
        Due.is("P16 good 1", x.bite(0, 1, 6), -5);
        Due.is("P16 good -1", x.bite(0, -1, 6), -5);
        Due.is("P16 place 16", x.bite(0, 0, 16), -7);
        Due.is("P16 place -1", x.bite(0, 0, -1), -7);
        Due.is("P16 no eater ahead of place", x.bite(2, 0, 16), -5);
        x.lend(0, 0, 63);
        Due.law(x, "0", "99", "0");
        for (int k = 1; k <= 16; k++) {
            x.put(0, 11, 1023);
            x.bite(0, 0, 6);
            Due.is("P16 had after " + k, x.told(0, 4), 27 + 594 * k);
        }
        x.put(0, 11, 1023);
        x.bite(0, 0, 6);
        Due.is("P16 had 9999 at most", x.told(0, 4), 9999);
    }

    private static void bitesOfKinds() {
        BiteFirst x = new BiteFirst();
        x.good(7, 10);
        x.good(6, 10);
        x.good(4, 10);
        for (int kind = 0; kind < 5; kind++) {
            x.eater(10 * kind + 7, 1);
        }
        int[] pays7 = {2, 4, 0, 2, 2};
        int[] pays6 = {2, 4, 2, 2, 4};
        int[] worth = {10, 20, 10, 17, 20};
        for (int e = 0; e < 5; e++) {
            Due.is("P15 pays, soft 7, kind " + e, x.mark(e, 0, 6, 1), pays7[e]);
            Due.is("P15 pays, soft 6, kind " + e, x.mark(e, 1, 6, 1), pays6[e]);
            Due.is("P15 likes, kind " + e, x.mark(e, 0, 6, 2), worth[e]);
        }
        Due.is("P16 toothless, hard", x.bite(2, 2, 6), STATE);
        Due.is("P16 gums, hard", x.bite(4, 2, 6), STATE);
        Due.is("P16 toothless, softest", x.bite(2, 0, 6), 0);
        Due.is("P16 gums", x.bite(4, 0, 7), 2);
        Due.is("P16 gums had", x.told(4, 4), 20);
        Due.is("P16 nibbler", x.bite(3, 0, 8), 2);
        Due.is("P16 nibbler had", x.told(3, 4), 17);
        BiteFirst y = pair(57, 1, 8, 10);
        Due.is("P15 hired pays 3 more", y.mark(0, 0, 6, 1), 11);
        Due.is("P15 hired likes as one", y.mark(0, 0, 6, 2), 40);
        Due.is("P15 hired pays 3 for none", y.mark(0, 0, 0, 1), 3);
        Due.is("P16 hired", y.bite(0, 0, 6), 11);
        BiteFirst z = pair(36, 1, 0, 99);
        Due.law(z, "1000", "1000", "0");
        Due.is("P15 nibbler likes more than 99", z.mark(0, 0, 6, 2), 105);
        Due.is("P15 pays 999", z.mark(0, 0, 6, 1), 999);
        BiteFirst h = pair(50, 1, 0, 99);
        Due.law(h, "1000", "1000", "0");
        Due.is("P15 hired pays more than 999", h.mark(0, 0, 6, 1), 1002);
        h.lend(0, 1, 1001);
        Due.is("P16 too dear by 1", h.bite(0, 0, 6), FULL);
        h.lend(0, 1, 1002);
        Due.is("P16 1002", h.bite(0, 0, 6), 1002);
    }

    private static void bests() {
        BiteFirst x = new BiteFirst();
        Due.is("P17 nobody", x.best(0, 0), -5);
        x.eater(0, 0b11);
        Due.is("P17 no goods", x.best(0, 0), NONE);
        Due.is("P17 no goods, gain", x.best(0, 1), 0);
        x.good(0, 2);
        Due.is("P17 likes none more: the first", x.best(0, 0), 5);
        Due.is("P17 gain 0 is a gain", x.best(0, 1), 0);
        x.good(0, 3);
        Due.is("P17 the good of more", x.best(0, 0), 106);
        Due.is("P17 its gain", x.best(0, 1), 2);
        x.put(1, 7, 5);
        Due.is("P17 the place of more", x.best(0, 0), 112);
        Due.is("P17 its gain", x.best(0, 1), 4);
        x.put(0, 4, 5);
        x.put(0, 5, 3);
        Due.is("P17 of like ones the good ahead", x.best(0, 0), 10);
        x.lend(0, 1, 3);
        Due.is("P17 one cell's gain", x.best(0, 1), 1);
        Due.is("P17 one cell, at the edge", x.best(0, 0), 105);
        x.lend(0, 1, 1);
        Due.is("P17 none it can pay", x.best(0, 0), NONE);
        Due.is("P17 no gain", x.best(0, 1), 0);
        Due.is("P17 what 2", x.best(0, 2), -7);
        Due.is("P17 what -1", x.best(0, -1), -7);
        Due.is("P17 eater 1", x.best(1, 0), -5);
        Due.is("P17 eater -1", x.best(-1, 0), -5);
        Due.is("P17 no eater ahead of what", x.best(1, 2), -5);
        BiteFirst y = pair(0, 1, 0, 1);
        Due.is("P17 below waits 0", y.best(0, 0), NONE);
        Due.is("P17 below waits 0, gain", y.best(0, 1), 0);
        BiteFirst z = pair(0, 1, 0, 9);
        z.put(0, 11, 0);
        Due.is("P17 nothing left", z.best(0, 0), NONE);
    }

    private static void bestsAtTheEdge() {
        BiteFirst x = pair(10, 32, 0, 9);
        x.good(0, 9);
        x.put(0, 11, 1);
        x.put(1, 11, 1);
        Due.is("P17 good 0, place 0", x.best(0, 0), 0);
        x.eater(0, 1);
        Due.is("P19 good 0, place 0", x.duel(0, 1, 1, 1), 0);
        Due.is("P18 good 0, place 0", x.orderly(1), 14);
        x.put(0, 0, 2);
        Due.is("P17 good 1, place 0", x.best(0, 0), 100);
        Due.is("P19 good 1, place 0", x.duel(0, 1, 1, 1), 100);
        Due.is("P18 good 1, place 0", x.orderly(1), 7);
        Due.is("P28 good 1, place 0", x.film(0, 1), 1);
        Due.is("P28 good 1, place 0", x.ends(0, 1, 2), 0);
        x.put(1, 11, 0);
        x.put(0, 11, 512);
        Due.is("P17 the first of two ways", x.best(0, 0), 9);
        BiteFirst y = pair(0, 1, 0, 9);
        y.put(0, 11, 512);
        Due.is("P17 place 15", y.best(0, 0), 15);
        y.lend(0, 1, 2);
        Due.is("P17 all one has", y.best(0, 0), 15);
        y.lend(0, 1, 1);
        Due.is("P17 too dear by 1", y.best(0, 0), NONE);
        y.eater(0, 1);
        Due.is("P19 place 15", y.duel(1, 0, 1, 1), 15);
    }

    private static void bestsThatWait() {
        BiteFirst x = pair(4, 0b11, 6, 9);
        Due.is("P17 no waiting", x.best(0, 1), 14);
        Due.law(x, "cells * 2", "worth", "15");
        Due.is("P17 waits for 15", x.best(0, 0), NONE);
        Due.law(x, "cells * 2", "worth", "14");
        Due.is("P17 waits for 14", x.best(0, 0), 6);
        Due.law(x, "cells * 2", "worth", "(cells = 2) * 15");
        Due.is("P17 waits by cells", x.best(0, 0), 5);
        Due.is("P17 waits by cells: gain", x.best(0, 1), 7);
        Due.law(x, "cells * 2", "worth", "(worth = 18) * 99");
        Due.is("P17 waits by the worth of all", x.best(0, 0), 5);
        x.put(0, 3, 8);
        Due.is("P17 waits by the worth of all", x.best(0, 0), 8);
        Due.is("P17 waits by the worth of all: gain", x.best(0, 1), 13);
        Due.law(x, "cells * 2", "worth", "(soft = 6 and more = 4 and left = 10 and day = 7) * 99");
        Due.is("P17 another day", x.best(0, 0), 6);
        x.set(7);
        Due.is("P17 that day", x.best(0, 0), NONE);
        x.put(0, 11, 1022);
        Due.is("P17 another left", x.best(0, 1), 14);
    }

    private static void orders() {
        BiteFirst x = new BiteFirst();
        Due.is("P18 nobody", x.orderly(0), NONE);
        Due.is("P18 nobody's gains", x.orderly(1), 0);
        Due.is("P18 what 2", x.orderly(2), BAD);
        Due.is("P18 what -1", x.orderly(-1), BAD);
        x.eater(0, 1);
        Due.is("P18 one", x.orderly(0), 1);
        Due.is("P18 one, no goods", x.orderly(1), 0);
        for (int e = 1; e < 5; e++) {
            x.eater(0, 1);
        }
        Due.is("P18 five", x.orderly(0), 12345);
        x.good(0, 3);
        Due.is("P18 five, all like: the first", x.orderly(0), 12345);
        Due.is("P18 five gains of 1", x.orderly(1), 5);
        x.put(0, 11, 0b11);
        Due.is("P18 two cells", x.orderly(1), 2);
    }

    private static void ordersByHand() {
        // Only the good's cell 0 is left: the nibbler likes it best, then the gums, then the plain one.
        BiteFirst x = new BiteFirst();
        x.good(8, 6);
        x.put(0, 11, 1);
        x.eater(0, 1);
        x.eater(40, 1);
        x.eater(39, 1);
        Due.is("P18 the nibbler first", x.orderly(0), 312);
        Due.is("P18 6 and 9 less 2", x.orderly(1), 13);
        // The wide one would eat both: it comes behind the other, who takes the dear one of them.
        BiteFirst y = new BiteFirst();
        y.good(8, 0);
        y.put(0, 11, 0b1001);
        y.put(0, 0, 5);
        y.put(0, 3, 20);
        y.eater(0, 0b1001);
        y.eater(49, 1);
        Due.is("P18 the gums first", y.orderly(0), 21);
        Due.is("P18 40 less 3, and 5 less 2", y.orderly(1), 37 + 3);
        // A poor one is out; the law is the one that holds.
        y.lend(1, 1, 2);
        Due.is("P18 too dear for the gums", y.orderly(0), 12);
        Due.is("P18 25 less 4", y.orderly(1), 21);
        Due.law(y, "0", "cells", "3");
        y.lend(1, 1, 100);
        Due.is("P18 one waits", y.orderly(1), 4);
        Due.is("P18 one waits", y.orderly(0), 12);
        Due.is("P18 nothing is eaten", y.part(0, 11), 0b1001);
        Due.is("P18 nothing is paid", y.told(0, 3), 100);
        Due.is("P18 nothing is had", y.told(0, 4), 0);
    }

    private static void ordersWithoutMoney() {
        // All have money for one bite alone, and the best order is not the first.
        BiteFirst x = new BiteFirst();
        x.good(8, 6);
        x.put(0, 11, 0b11);
        x.put(0, 1, 50);
        x.eater(0, 1);
        x.eater(30, 1);
        x.eater(39, 1);
        for (int e = 0; e < 3; e++) {
            x.lend(e, 1, 2);
        }
        Due.is("P18 the last ahead of one more", x.orderly(0), 132);
        Due.is("P18 50 and 15 for 4", x.orderly(1), 61);
    }

    private static void duelsWithoutMoney() {
        BiteFirst x = pair(0, 1, 0, 3);
        x.eater(0, 1);
        x.put(0, 7, 30);
        x.put(0, 8, 20);
        x.lend(0, 1, 2);
        x.lend(1, 1, 2);
        Due.is("P19 money for one bite", x.duel(0, 1, 1, 0), 28);
        Due.is("P19 money for one bite each", x.duel(0, 1, 2, 0), 10);
        Due.is("P19 its bite", x.duel(0, 1, 2, 1), 13);
    }

    /** Five eaters, six goods: nothing beyond them is looked at. */
    private static void aFullTable() {
        BiteFirst x = new BiteFirst();
        for (int g = 0; g < 6; g++) {
            x.good(0, 2 + g);
        }
        for (int e = 0; e < 5; e++) {
            x.eater(0, 1);
        }
        x.image();
        Due.is("P17 the last good", x.best(4, 0), 506);
        Due.is("P18 gains of 5", x.orderly(1), 25);
        Due.is("P19 the last two", x.duel(4, 3, 2, 1), 506);
        Due.is("P21 all of them", x.soonest(5, 1), 10);
        Due.is("P23 all of them", x.whose(5, 1), 31);
        Due.is("P28 the last good", x.film(0, 13), 13);
        Due.is("P26 the last good", x.ends(0, 5, 2), 0);
        Due.is("P26 the last but one", x.ends(0, 4, 2), 1023 - 7);
        Due.is("P29 the last eater", x.drawn(1, 60, 4, 1) <= 100 ? 1 : 0, 1);
        x.bite(4, 5, 6);
        Due.is("P32 back", x.back(), 5);
        Due.is("P32 the last good", x.part(5, 11), 1023);
        Due.is("P32 the last eater", x.told(4, 3), 100);
    }

    private static void duels() {
        BiteFirst x = new BiteFirst();
        Due.is("P19 nobody", x.duel(0, 1, 1, 0), -1000005);
        x.eater(0, 1);
        Due.is("P19 one and the same", x.duel(0, 0, 1, 0), -1000005);
        Due.is("P19 no other", x.duel(0, 1, 1, 0), -1000005);
        Due.is("P19 no one", x.duel(1, 0, 1, 0), -1000005);
        Due.is("P19 eater -1", x.duel(-1, 0, 1, 0), -1000005);
        Due.is("P19 other -1", x.duel(0, -1, 1, 0), -1000005);
        x.eater(0, 0b11);
        Due.is("P19 n 0", x.duel(0, 1, 0, 0), -1000007);
        Due.is("P19 n 3", x.duel(0, 1, 3, 0), -1000007);
        Due.is("P19 what 2", x.duel(0, 1, 1, 2), -1000007);
        Due.is("P19 what -1", x.duel(0, 1, 1, -1), -1000007);
        Due.is("P19 one and the same ahead of n", x.duel(1, 1, 3, 2), -1000005);
        Due.is("P19 no goods", x.duel(0, 1, 1, 0), 0);
        Due.is("P19 no goods, bite", x.duel(0, 1, 1, 1), NONE);
        Due.is("P19 no goods, two", x.duel(0, 1, 2, 0), 0);
        Due.is("P19 no goods, two, bite", x.duel(0, 1, 2, 1), NONE);
    }

    private static void duelsByHand() {
        BiteFirst x = new BiteFirst();
        x.eater(0, 1);
        x.eater(0, 0b11);
        x.good(0, 0);
        x.good(0, 1);
        x.put(0, 11, 0b0001);
        x.put(1, 11, 0b0111);
        // One pays 2 for a cell of 0 or 1: whether it is worth it or not, a bite that can be is done.
        Due.is("P19 the least loss", x.duel(0, 1, 1, 0), -1);
        Due.is("P19 the least loss's bite", x.duel(0, 1, 1, 1), 106);
        x.put(1, 1, 9);
        Due.is("P19 one", x.duel(0, 1, 1, 0), 7);
        Due.is("P19 one's bite", x.duel(0, 1, 1, 1), 107);
        // Behind that the other one's least loss is a single 1 for 2.
        Due.is("P19 two", x.duel(0, 1, 2, 0), 8);
        Due.is("P19 two, bite", x.duel(0, 1, 2, 1), 107);
        Due.is("P19 the other: 9 and 1 for 4", x.duel(1, 0, 1, 0), 6);
        Due.is("P19 the other's bite", x.duel(1, 0, 1, 1), 106);
        x.lend(0, 1, 1);
        Due.is("P19 none can be", x.duel(0, 1, 1, 0), 0);
        Due.is("P19 none can be, bite", x.duel(0, 1, 1, 1), NONE);
        Due.is("P19 none can be: less the other's", x.duel(0, 1, 2, 0), -6);
        Due.is("P19 none can be, bite", x.duel(0, 1, 2, 1), NONE);
        Due.is("P19 the other's, none can be then", x.duel(1, 0, 2, 0), 6);
        // What is left behind one's bite counts: taking the cell 1 parts the other's two of 9.
        BiteFirst y = new BiteFirst();
        y.eater(0, 1);
        y.eater(0, 0b111);
        y.good(0, 9);
        y.put(0, 11, 0b111);
        y.put(0, 0, 12);
        Due.is("P19 parts them", y.duel(0, 1, 2, 0), 10 - 14);
        Due.is("P19 the dearest", y.duel(0, 1, 2, 1), 6);
        y.eater(0, 0b11);
        y.put(0, 0, 10);
        Due.is("P19 parts them", y.duel(0, 2, 2, 0), 7 - 8);
        Due.is("P19 the midst", y.duel(0, 2, 2, 1), 7);
        Due.is("P19 nothing is eaten", y.part(0, 11), 7);
        Due.is("P19 nothing is paid", y.told(0, 3), 100);
        Due.is("P19 nothing is had", y.told(2, 4), 0);
        Due.law(y, "cells * 2", "worth", "999");
        Due.is("P19 waits doesn't matter", y.duel(0, 2, 2, 0), -1);
    }

    private static void fewest() {
        BiteFirst x = pair(0, 0b1, 0, 99);
        Due.is("P20 one by one", x.fewest(0, 0), 10);
        x.lend(0, 1, 0);
        Due.is("P20 whatever they cost", x.fewest(0, 0), 10);
        x.lend(0, 0, 0b111111);
        Due.is("P20 six at once", x.fewest(0, 0), 2);
        x.lend(0, 0, 0b11111);
        Due.is("P20 five at once", x.fewest(0, 0), 2);
        x.lend(0, 0, 0b1111);
        Due.is("P20 four at once", x.fewest(0, 0), 3);
        x.lend(0, 0, 0b11);
        Due.is("P20 two at once", x.fewest(0, 0), 5);
        x.lend(0, 0, 0b101);
        Due.is("P20 two with a gap", x.fewest(0, 0), 6);
        x.lend(0, 0, 0b100001);
        Due.is("P20 two far apart", x.fewest(0, 0), 5);
        x.lend(0, 0, 0b10001);
        Due.is("P20 two apart", x.fewest(0, 0), 6);
        x.put(0, 11, 0b1000000001);
        Due.is("P20 two cells", x.fewest(0, 0), 2);
        x.put(0, 11, 0b10001000);
        Due.is("P20 two cells at once", x.fewest(0, 0), 1);
        x.put(0, 11, 0);
        Due.is("P20 nothing left", x.fewest(0, 0), 0);
        BiteFirst y = pair(20, 63, 4, 1);
        Due.is("P20 it can't be", y.fewest(0, 0), NONE);
        y.put(0, 11, 0);
        Due.is("P20 nothing left, no shape", y.fewest(0, 0), 0);
        BiteFirst z = pair(10, 63, 0, 1);
        z.put(0, 11, 0b1111111);
        Due.is("P20 seven at once", z.fewest(0, 0), 1);
        BiteFirst h = pair(58, 1, 0, 1);
        Due.is("P20 hired", h.fewest(0, 0), 2);
        Due.is("P20 eater 1", x.fewest(1, 0), -5);
        Due.is("P20 eater -1", x.fewest(-1, 0), -5);
        Due.is("P20 good 1", x.fewest(0, 1), -5);
        Due.is("P20 good -1", x.fewest(0, -1), -5);
        BiteFirst g = pair(0, 0b1011, 0, 1);
        g.put(0, 11, 0b0110011);
        Due.is("P20 not by greed", g.fewest(0, 0), 2);
        g.put(0, 11, 0b101);
        Due.is("P20 by its upper bits", g.fewest(0, 0), 1);
        g.put(0, 11, 0b1010000);
        Due.is("P20 by its upper bits", g.fewest(0, 0), 1);
        g.put(0, 11, 0b1000000000);
        Due.is("P20 the last cell", g.fewest(0, 0), 1);
        g.lend(0, 0, 0b100000);
        g.put(0, 11, 1023);
        Due.is("P20 the highest bit alone", g.fewest(0, 0), 10);
    }

    private static void soonest() {
        BiteFirst x = new BiteFirst();
        Due.is("P21 no good", x.soonest(0, 0), -5);
        x.good(4, 1);
        Due.is("P21 nobody", x.soonest(0, 0), NONE);
        Due.is("P21 nobody, how many", x.soonest(0, 1), NONE);
        x.put(0, 11, 0);
        Due.is("P21 nobody, nothing left", x.soonest(0, 0), NONE);
        Due.is("P21 nobody, nothing left", x.soonest(0, 1), NONE);
        x.put(0, 11, 1023);
        x.eater(20, 63);
        Due.is("P21 none can", x.soonest(0, 0), NONE);
        Due.is("P21 none can, how many", x.soonest(0, 1), NONE);
        x.eater(0, 1);
        Due.is("P21 one can", x.soonest(0, 0), 1);
        Due.is("P21 one can, how many", x.soonest(0, 1), 10);
        x.eater(0, 0b11111);
        x.eater(0, 0b111111);
        Due.is("P21 the first of two", x.soonest(0, 0), 2);
        Due.is("P21 the first of two, how many", x.soonest(0, 1), 2);
        x.put(0, 11, 0);
        Due.is("P21 nothing left", x.soonest(0, 0), 0);
        Due.is("P21 nothing left, how many", x.soonest(0, 1), 0);
        Due.is("P21 good 1", x.soonest(1, 0), -5);
        Due.is("P21 good -1", x.soonest(-1, 0), -5);
        Due.is("P21 what 2", x.soonest(0, 2), -7);
        Due.is("P21 what -1", x.soonest(0, -1), -7);
        Due.is("P21 no good ahead of what", x.soonest(1, 2), -5);
    }

    private static void hires() {
        BiteFirst x = pair(0, 0b11, 0, 9);
        // t teeth: t times 7, less 3.
        Due.is("P22 five teeth", x.hire(0, 0), 5);
        Due.is("P22 five teeth's gain", x.hire(0, 1), 32);
        x.put(0, 11, 0b0111);
        Due.is("P22 three do", x.hire(0, 0), 3);
        Due.is("P22 three teeth's gain", x.hire(0, 1), 18);
        x.put(0, 11, 0b0011);
        Due.is("P22 no more than as one is", x.hire(0, 0), NONE);
        Due.is("P22 as one is", x.hire(0, 1), 14);
        x.lend(0, 0, 1);
        Due.is("P22 two teeth", x.hire(0, 0), 2);
        Due.is("P22 two teeth's gain", x.hire(0, 1), 11);
        x.lend(0, 1, 6);
        Due.is("P22 too dear for two", x.hire(0, 0), NONE);
        Due.is("P22 too dear for two", x.hire(0, 1), 7);
        x.lend(0, 1, 1);
        Due.is("P22 too dear", x.hire(0, 0), NONE);
        Due.is("P22 too dear", x.hire(0, 1), 0);
        Due.is("P22 kind stays", x.told(0, 0), 0);
        Due.is("P22 jaw stays", x.told(0, 2), 1);
        // With the MORE of the teeth: 8 is liked so much that one is no longer needed.
        BiteFirst y = pair(9, 1, 0, 0);
        Due.law(y, "0", "(more = 4) * 50 + (more = 9) * 60", "0");
        Due.is("P22 MORE 4 is 3 teeth", y.hire(0, 0), 3);
        Due.is("P22 MORE 4's gain", y.hire(0, 1), 147);
        Due.law(y, "0", "(more = 0) * 99", "0");
        Due.is("P22 MORE 0 is 1 tooth", y.hire(0, 0), 1);
        Due.is("P22 MORE 0's gain", y.hire(0, 1), 96);
        Due.law(y, "0", "(more = 0) * 12", "10");
        Due.is("P22 waits, hired", y.hire(0, 0), NONE);
        Due.is("P22 waits, hired: none", y.hire(0, 1), 0);
        BiteFirst z = pair(54, 1, 0, 9);
        Due.is("P22 hired already: more teeth", z.hire(0, 0), 5);
        Due.is("P22 what 2", x.hire(0, 2), -7);
        Due.is("P22 what -1", x.hire(0, -1), -7);
        Due.is("P22 eater 1", x.hire(1, 0), -5);
        Due.is("P22 eater -1", x.hire(-1, 0), -5);
        Due.is("P22 no eater ahead of what", x.hire(1, 2), -5);
        BiteFirst g = new BiteFirst();
        g.eater(0, 1);
        Due.is("P22 no goods", g.hire(0, 0), NONE);
        Due.is("P22 no goods", g.hire(0, 1), 0);
    }

    private static void asksChangeNothing() {
        BiteFirst x = pair(14, 5, 6, 9);
        x.eater(23, 9);
        x.good(2, 20);
        x.bite(1, 0, 6);
        x.orderly(0);
        x.duel(0, 1, 2, 0);
        x.hire(1, 0);
        x.best(0, 0);
        x.fewest(0, 1);
        x.soonest(1, 0);
        x.mark(0, 0, 6, 2);
        int[][] eaters = {{1, 4, 5, 100, 0}, {2, 3, 9, 96, 18}};
        for (int e = 0; e < 2; e++) {
            for (int what = 0; what < 5; what++) {
                Due.is("asking changes nothing", x.told(e, what), eaters[e][what]);
            }
        }
        Due.is("asking changes nothing", x.part(0, 11), 1023 - 9);
        Due.is("asking changes nothing", x.part(1, 11), 1023);
        Due.is("asking changes nothing", x.count(4), 0);
    }
}
