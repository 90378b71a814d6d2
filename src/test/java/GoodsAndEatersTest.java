/** Promises 8 to 14: goods, eaters, shapes. */
public final class GoodsAndEatersTest {

    private static final int BAD = -2, FULL = -4;

    public static void main(String[] args) {
        goodsCome();
        goodsArePut();
        eatersCome();
        eatersAreTold();
        lends();
        shapes();
        Due.end("GoodsAndEatersTest");
    }

    private static void goodsCome() {
        BiteFirst x = new BiteFirst();
        Due.is("P8 soft 10", x.good(10, 0), BAD);
        Due.is("P8 soft -1", x.good(-1, 0), BAD);
        Due.is("P8 worth 100", x.good(0, 100), BAD);
        Due.is("P8 worth -1", x.good(0, -1), BAD);
        Due.is("P8 none came", x.count(1), 0);
        for (int g = 0; g < 6; g++) {
            Due.is("P8 good " + g, x.good(g == 5 ? 9 : g, g == 5 ? 99 : 7 * g), g);
        }
        Due.is("P8 six are all", x.good(0, 0), FULL);
        Due.is("P8 BAD ahead of FULL", x.good(10, 0), BAD);
        Due.is("P8 BAD ahead of FULL", x.good(0, 100), BAD);
        Due.is("P8 six goods", x.count(1), 6);
        for (int g = 0; g < 6; g++) {
            for (int c = 0; c < 10; c++) {
                Due.is("P8 worth of " + g + ", " + c, x.part(g, c), g == 5 ? 99 : 7 * g);
            }
            Due.is("P8 soft of " + g, x.part(g, 10), g == 5 ? 9 : g);
            Due.is("P8 left of " + g, x.part(g, 11), 1023);
        }
    }

    private static void goodsArePut() {
        BiteFirst x = new BiteFirst();
        Due.is("P9 no such good", x.put(0, 0, 0), -5);
        Due.is("P10 no such good", x.part(0, 0), -5);
        x.good(1, 20);
        x.good(2, 30);
        for (int c = 0; c < 10; c++) {
            Due.is("P9 a cell", x.put(1, c, 90 + c), 30);
        }
        for (int c = 0; c < 10; c++) {
            Due.is("P10 a cell", x.part(1, c), 90 + c);
            Due.is("P10 another good's", x.part(0, c), 20);
        }
        Due.is("P9 soft", x.put(1, 10, 9), 2);
        Due.is("P9 left", x.put(1, 11, 0x2a5), 1023);
        Due.is("P9 what it was", x.put(1, 10, 0), 9);
        Due.is("P9 what it was", x.put(1, 11, 1023), 0x2a5);
        Due.is("P9 what it was", x.put(1, 9, 0), 99);
        Due.is("P10 soft", x.part(1, 10), 0);
        Due.is("P10 left", x.part(1, 11), 1023);
        Due.is("P10 another good's soft", x.part(0, 10), 1);
        Due.is("P9 worth 100", x.put(0, 3, 100), -7);
        Due.is("P9 worth -1", x.put(0, 3, -1), -7);
        Due.is("P9 soft 10", x.put(0, 10, 10), -7);
        Due.is("P9 soft -1", x.put(0, 10, -1), -7);
        Due.is("P9 left 1024", x.put(0, 11, 1024), -7);
        Due.is("P9 left -1", x.put(0, 11, -1), -7);
        Due.is("P9 what 12", x.put(0, 12, 0), -7);
        Due.is("P9 what -1", x.put(0, -1, 0), -7);
        Due.is("P9 good 2", x.put(2, 0, 0), -5);
        Due.is("P9 good -1", x.put(-1, 0, 0), -5);
        Due.is("P9 no good ahead of what", x.put(2, 12, -1), -5);
        Due.is("P10 what 12", x.part(0, 12), -7);
        Due.is("P10 what -1", x.part(0, -1), -7);
        Due.is("P10 good 2", x.part(2, 0), -5);
        Due.is("P10 good -1", x.part(-1, 0), -5);
        Due.is("P10 no good ahead of what", x.part(-1, 12), -5);
        Due.is("P9 refusals change nothing", x.part(0, 3), 20);
        Due.is("P9 refusals change nothing", x.part(0, 10), 1);
        Due.is("P9 refusals change nothing", x.part(0, 11), 1023);
    }

    private static void eatersCome() {
        BiteFirst x = new BiteFirst();
        Due.is("P11 kind 6", x.eater(60, 1), BAD);
        Due.is("P11 below 0", x.eater(-1, 1), BAD);
        Due.is("P11 jaw 0", x.eater(0, 0), BAD);
        Due.is("P11 jaw 64", x.eater(0, 64), BAD);
        Due.is("P11 jaw -1", x.eater(0, -1), BAD);
        Due.is("P11 none came", x.count(0), 0);
        Due.is("P11 eater 0", x.eater(0, 1), 0);
        Due.is("P11 eater 1", x.eater(59, 63), 1);
        Due.is("P11 eater 2", x.eater(23, 32), 2);
        Due.is("P11 eater 3", x.eater(10, 5), 3);
        Due.is("P11 eater 4", x.eater(48, 9), 4);
        Due.is("P11 five are all", x.eater(0, 1), FULL);
        Due.is("P11 BAD ahead of FULL", x.eater(60, 1), BAD);
        Due.is("P11 BAD ahead of FULL", x.eater(0, 64), BAD);
        Due.is("P11 five eaters", x.count(0), 5);
        int[][] all = {{0, 0, 1}, {5, 9, 63}, {2, 3, 32}, {1, 0, 5}, {4, 8, 9}};
        for (int e = 0; e < 5; e++) {
            Due.is("P12 kind", x.told(e, 0), all[e][0]);
            Due.is("P12 more", x.told(e, 1), all[e][1]);
            Due.is("P12 jaw", x.told(e, 2), all[e][2]);
            Due.is("P12 purse", x.told(e, 3), 100);
            Due.is("P12 had", x.told(e, 4), 0);
        }
    }

    private static void eatersAreTold() {
        BiteFirst x = new BiteFirst();
        Due.is("P12 no such eater", x.told(0, 0), -5);
        x.eater(37, 11);
        Due.is("P12 what 5", x.told(0, 5), -7);
        Due.is("P12 what -1", x.told(0, -1), -7);
        Due.is("P12 eater 1", x.told(1, 0), -5);
        Due.is("P12 eater -1", x.told(-1, 0), -5);
        Due.is("P12 no eater ahead of what", x.told(1, 5), -5);
        x.good(0, 40);
        x.bite(0, 0, 6);
        Due.is("P12 kind", x.told(0, 0), 3);
        Due.is("P12 more", x.told(0, 1), 7);
        Due.is("P12 purse", x.told(0, 3), 98);
        Due.is("P12 had", x.told(0, 4), 47);
    }

    private static void lends() {
        BiteFirst x = new BiteFirst();
        Due.is("P13 no such eater", x.lend(0, 0, 1), -5);
        x.eater(0, 9);
        x.eater(0, 9);
        Due.is("P13 jaw", x.lend(1, 0, 63), 9);
        Due.is("P13 jaw", x.lend(1, 0, 1), 63);
        Due.is("P13 purse", x.lend(1, 1, 9999), 100);
        Due.is("P13 purse", x.lend(1, 1, 0), 9999);
        Due.is("P13 jaw stays", x.lend(1, 0, 2), 1);
        Due.is("P13 jaw 0", x.lend(0, 0, 0), -7);
        Due.is("P13 jaw 64", x.lend(0, 0, 64), -7);
        Due.is("P13 jaw -1", x.lend(0, 0, -1), -7);
        Due.is("P13 purse 10000", x.lend(0, 1, 10000), -7);
        Due.is("P13 purse -1", x.lend(0, 1, -1), -7);
        Due.is("P13 what 2", x.lend(0, 2, 1), -7);
        Due.is("P13 what -1", x.lend(0, -1, 1), -7);
        Due.is("P13 eater 2", x.lend(2, 0, 1), -5);
        Due.is("P13 eater -1", x.lend(-1, 0, 1), -5);
        Due.is("P13 no eater ahead of what", x.lend(2, 2, 1), -5);
        Due.is("P13 the other's jaw", x.told(0, 2), 9);
        Due.is("P13 the other's purse", x.told(0, 3), 100);
        Due.is("P13 told jaw", x.told(1, 2), 2);
        Due.is("P13 told purse", x.told(1, 3), 0);
    }

    private static void shape(int kindMore, int jaw, int soft, int want) {
        BiteFirst x = new BiteFirst();
        x.eater(kindMore, jaw);
        x.good(soft, 1);
        Due.is("P14 shape of " + kindMore + ", " + jaw + ", soft " + soft, x.shape(0, 0), want);
    }

    private static void shapes() {
        shape(0, 37, 0, 37);
        shape(9, 37, 9, 37);
        shape(10, 37, 0, 0b1101111);
        shape(10, 32, 9, 0b1100000);
        shape(10, 1, 5, 3);
        shape(20, 37, 4, 0);
        shape(20, 37, 5, 37);
        shape(20, 37, 0, 0);
        shape(29, 63, 9, 63);
        shape(30, 37, 0, 1);
        shape(39, 36, 9, 4);
        shape(30, 32, 4, 32);
        shape(40, 37, 4, 0);
        shape(40, 37, 5, 37);
        shape(49, 1, 9, 1);
        shape(50, 37, 0, 1);
        shape(51, 37, 0, 1);
        shape(52, 37, 0, 3);
        shape(53, 37, 9, 3);
        shape(54, 1, 0, 7);
        shape(55, 1, 0, 7);
        shape(56, 1, 0, 15);
        shape(57, 1, 0, 15);
        shape(58, 1, 0, 31);
        shape(59, 1, 4, 31);
        BiteFirst x = new BiteFirst();
        Due.is("P14 nobody", x.shape(0, 0), -5);
        x.eater(0, 1);
        Due.is("P14 no good", x.shape(0, 0), -5);
        x.good(0, 0);
        Due.is("P14 eater 0, good 0", x.shape(0, 0), 1);
        Due.is("P14 eater 1", x.shape(1, 0), -5);
        Due.is("P14 eater -1", x.shape(-1, 0), -5);
        Due.is("P14 good 1", x.shape(0, 1), -5);
        Due.is("P14 good -1", x.shape(0, -1), -5);
        x.put(0, 11, 0);
        Due.is("P14 whatever is left", x.shape(0, 0), 1);
        x.lend(0, 0, 44);
        Due.is("P14 by the new jaw", x.shape(0, 0), 44);
    }
}
