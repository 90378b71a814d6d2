/** Objects that are furnished alike each time: bare, laid (some of all, room for more), full. */
final class Table {

    private Table() {
    }

    static BiteFirst bare() {
        return new BiteFirst();
    }

    /**
     * Three eaters, three goods, the law is text 1 of two, the tape has six bytes; sheet 0 is a day of
     * two bites (bytes), 1 four shorts, 2 three ints, 3 is missing; an image has two eaters, one good.
     */
    static BiteFirst laid() {
        BiteFirst x = new BiteFirst();
        x.eater(4, 0b101);
        x.eater(17, 0b11);
        x.good(3, 10);
        x.set(5);
        x.bite(0, 0, 6);
        x.lend(0, 1, 77);
        x.image();
        x.eater(36, 0b1001);
        x.good(6, 20);
        x.good(9, 30);
        x.set(42);
        Due.law(x, "cells + 1", "worth", "1");
        x.lend(1, 1, 50);
        x.bite(1, 1, 8);
        x.put(2, 3, 99);
        Due.row(x, 0, 0, 0, 1, 12, 1, 0, 9);
        Due.row(x, 1, 1, 47, 9, 12, 3);
        Due.row(x, 2, 2, 2, 1, 15);
        Due.feed(x, "pays 9");
        return x;
    }

    /** Five eaters, six goods, six texts, 160 bytes on the tape, four sheets of 40; an image of two eaters. */
    static BiteFirst full() {
        BiteFirst x = new BiteFirst();
        x.eater(4, 0b101);
        x.eater(17, 0b11);
        x.image();
        x.eater(25, 0b1001);
        x.eater(46, 0b111);
        x.eater(59, 0b1);
        for (int g = 0; g < 6; g++) {
            x.good(9 - g, 10 + 7 * g);
        }
        for (int t = 1; t < 6; t++) {
            Due.text(x, "pays " + t + ";likes worth;waits 0;");
        }
        x.force(5);
        for (int s = 0; s < 4; s++) {
            x.sheet(s, s % 3, 40);
        }
        Due.feed(x, " ".repeat(160));
        return x;
    }

    /** One eater and one good. */
    static BiteFirst pair(int kindMore, int jaw, int softness, int worth) {
        BiteFirst x = new BiteFirst();
        x.eater(kindMore, jaw);
        x.good(softness, worth);
        return x;
    }
}
