/** Promises 23 to 28: whose a mark is, and told days. */
public final class MarksAndDaysTest {

    private static final int NONE = -1, BAD = -2;

    public static void main(String[] args) {
        whose();
        kindsAndMores();
        jaws();
        judges();
        ends();
        laws();
        films();
        Due.end("MarksAndDaysTest");
    }

    private static void whose() {
        BiteFirst x = new BiteFirst();
        Due.is("P23 no good", x.whose(0, 1), -5);
        x.good(6, 1);
        Due.is("P23 nobody", x.whose(0, 1), 0);
        x.eater(0, 0b11);
        x.eater(10, 0b1);
        x.eater(20, 0b101);
        x.eater(30, 0b11);
        x.eater(54, 0b1);
        Due.is("P23 two cells", x.whose(0, 0b11000), 0b00011);
        Due.is("P23 two with a gap", x.whose(0, 0b1010000000), 0b00100);
        Due.is("P23 one in the midst", x.whose(0, 0b10000), 0b01000);
        Due.is("P23 the first one", x.whose(0, 1), 0b11111);
        Due.is("P23 the last one", x.whose(0, 512), 0b11111);
        Due.is("P23 three", x.whose(0, 0b1110), 0b10000);
        Due.is("P23 nobody's", x.whose(0, 0b1111), 0);
        Due.is("P23 all", x.whose(0, 1023), 0);
        x.lend(0, 1, 0);
        Due.is("P23 whatever it costs", x.whose(0, 0b11000), 0b00011);
        x.put(0, 11, 0b0000011101);
        Due.is("P23 of what is left", x.whose(0, 0b100), 0b01011);
        Due.is("P23 of what is left", x.whose(0, 0b1), 0b11111);
        Due.is("P23 not left", x.whose(0, 0b11), -7);
        Due.is("P23 not left", x.whose(0, 0b100000), -7);
        x.put(0, 10, 4);
        Due.is("P23 too hard for the toothless", x.whose(0, 0b101), 0b10000);
        Due.is("P23 no cell", x.whose(0, 0), -7);
        Due.is("P23 1024", x.whose(0, 1024), -7);
        Due.is("P23 -1", x.whose(0, -1), -7);
        Due.is("P23 good 1", x.whose(1, 1), -5);
        Due.is("P23 good -1", x.whose(-1, 1), -5);
        Due.is("P23 no good ahead of the mark", x.whose(1, 0), -5);
        x.put(0, 11, 0);
        Due.is("P23 nothing left", x.whose(0, 1), -7);
    }

    private static void kindsAndMores() {
        BiteFirst x = new BiteFirst();
        x.eater(2, 0b11);
        x.good(5, 1);
        Due.is("P24 kinds of two", x.kinds(0, 0, 0b110, 0), 0b110101);
        Due.is("P24 kinds of three", x.kinds(0, 0, 0b1110, 0), 0b000010);
        Due.is("P24 kinds of one", x.kinds(0, 0, 0b100, 0), 0b001000);
        Due.is("P24 kinds of the last", x.kinds(0, 0, 512, 0), 0b111111);
        Due.is("P24 no kinds", x.kinds(0, 0, 0b101, 0), 0);
        Due.is("P24 any MORE", x.kinds(0, 0, 0b110, 1), 0b1111111111);
        Due.is("P24 no MORE", x.kinds(0, 0, 0b1110, 1), 0);
        x.put(0, 10, 4);
        Due.is("P24 kinds of two, hard", x.kinds(0, 0, 0b110, 0), 0b100001);
        x.eater(50, 1);
        Due.is("P24 MORE of two", x.kinds(1, 0, 0b110, 1), 0b0000001100);
        Due.is("P24 MORE of five", x.kinds(1, 0, 0b1111100, 1), 0b1100000000);
        Due.is("P24 MORE of one", x.kinds(1, 0, 0b100, 1), 0b0000000011);
        Due.is("P24 MORE at the edge", x.kinds(1, 0, 0b111, 1), 0b1111110000);
        Due.is("P24 kinds of the hired one", x.kinds(1, 0, 0b1, 0), 0b101011);
        Due.is("P24 eater stays", x.told(1, 0), 5);
        Due.is("P24 eater stays", x.told(1, 1), 0);
    }

    private static void jaws() {
        BiteFirst x = new BiteFirst();
        x.eater(0, 63);
        x.eater(10, 63);
        x.eater(20, 63);
        x.eater(30, 63);
        x.eater(55, 63);
        x.good(5, 1);
        // 0b001001, twice and four times it.
        Due.is("P24 how many jaws", x.kinds(0, 0, 0b100100, 2), 3);
        Due.is("P24 the least jaw", x.kinds(0, 0, 0b100100, 3), 0b1001);
        Due.is("P24 jaws of two", x.kinds(0, 0, 0b110000, 2), 5);
        Due.is("P24 jaws of two: least", x.kinds(0, 0, 0b110000, 3), 3);
        Due.is("P24 jaws of six", x.kinds(0, 0, 0b1111110, 2), 1);
        Due.is("P24 jaws of six: least", x.kinds(0, 0, 0b1111110, 3), 63);
        Due.is("P24 jaws of seven", x.kinds(0, 0, 0b11111110, 2), 0);
        Due.is("P24 jaws of seven: none", x.kinds(0, 0, 0b11111110, 3), NONE);
        // Six of one bit, and 0b100001, whose lowest bit is ahead of cell 0.
        Due.is("P24 jaws of one", x.kinds(0, 0, 0b10000, 2), 7);
        // A wide one: 0b110 by one bit, wherever it stands.
        Due.is("P24 wide jaws of two", x.kinds(1, 0, 0b110000, 2), 6);
        Due.is("P24 wide jaws of two: least", x.kinds(1, 0, 0b110000, 3), 1);
        Due.is("P24 wide jaws of one", x.kinds(1, 0, 0b10000, 2), 0);
        // A nibbler: any jaw takes one cell.
        Due.is("P24 a nibbler's jaws", x.kinds(3, 0, 0b10000, 2), 63);
        Due.is("P24 a nibbler's least jaw", x.kinds(3, 0, 0b10000, 3), 1);
        Due.is("P24 a nibbler's two cells", x.kinds(3, 0, 0b11000, 2), 0);
        // Hired teeth don't ask for the jaw.
        Due.is("P24 hired ones' jaws", x.kinds(4, 0, 0b11100, 2), 63);
        Due.is("P24 hired ones' jaws", x.kinds(4, 0, 0b11000, 2), 0);
        Due.is("P24 hired ones' least jaw", x.kinds(4, 0, 0b11100, 3), 1);
        Due.is("P24 hired ones' least jaw", x.kinds(4, 0, 0b11000, 3), NONE);
        // At the place 0 a wide one's highest bit alone takes the cell 0.
        x.lend(1, 0, 0b100000);
        Due.is("P23 at the place 0", x.whose(0, 1) & 2, 2);
        Due.is("P24 at the place 0", x.kinds(1, 0, 1, 0), 0b111111);
        Due.is("P24 soft enough", x.kinds(2, 0, 0b1111110, 3), 63);
        x.put(0, 10, 4);
        Due.is("P24 too hard", x.kinds(2, 0, 0b1111110, 3), NONE);
        Due.is("P24 too hard", x.kinds(2, 0, 0b1111110, 2), 0);
        x.lend(0, 1, 0);
        Due.is("P24 whatever it costs", x.kinds(0, 0, 0b1111110, 2), 1);
        Due.is("P24 jaw stays", x.told(0, 2), 63);
    }

    /** Two eaters, one good of ten nines. */
    private static BiteFirst table() {
        BiteFirst x = new BiteFirst();
        x.eater(0, 0b1);
        x.eater(0, 0b11);
        x.good(0, 9);
        x.good(0, 9);
        return x;
    }

    private static void judges() {
        BiteFirst x = table();
        Due.row(x, 0, 0, 0, 0, 6, 1, 0, 7, 0, 0, 8, 1, 0, 6, 0, 1, 6);
        Due.is("P25 the third has nothing to bite", x.judge(0), 2);
        x.cell(0, 8, 9);
        Due.is("P25 then the fourth", x.judge(0), 3);
        x.cell(0, 10, 1);
        Due.is("P25 then the fifth", x.judge(0), 4);
        x.cell(0, 14, 15);
        Due.is("P25 all can be", x.judge(0), NONE);
        x.lend(0, 1, 5);
        Due.is("P25 the last is too dear", x.judge(0), 4);
        x.lend(0, 1, 1);
        Due.is("P25 the first is too dear", x.judge(0), 0);
        Due.is("P25 in thought", x.part(0, 11), 1023);
        Due.is("P25 in thought", x.told(1, 3), 100);
        Due.is("P25 in thought", x.told(1, 4), 0);
        x.sheet(1, 2, 0);
        Due.is("P25 a day without bites", x.judge(1), NONE);
        Due.row(x, 2, 1, 1, 1, 15);
        Due.is("P25 by shorts", x.judge(2), NONE);
        Due.row(x, 3, 2, 1, 1, 0);
        Due.is("P25 by ints", x.judge(3), 0);
        Due.law(x, "0", "1", "999");
        Due.is("P25 by the law", x.judge(0), NONE);
    }

    private static void ends() {
        BiteFirst x = table();
        Due.row(x, 0, 0, 0, 0, 6, 1, 0, 7, 0, 1, 15, 0, 0, 8, 1, 0, 12);
        // The fourth can't be: cell 2 is gone.
        Due.is("P26 had 0", x.ends(0, 0, 0), 18);
        Due.is("P26 had 1", x.ends(0, 1, 0), 18);
        Due.is("P26 purse 0", x.ends(0, 0, 1), 96);
        Due.is("P26 purse 1", x.ends(0, 1, 1), 96);
        Due.is("P26 left 0", x.ends(0, 0, 2), 1023 - 7);
        Due.is("P26 left 1", x.ends(0, 1, 2), 511);
        x.cell(0, 11, 9);
        Due.is("P26 all: had 0", x.ends(0, 0, 0), 27);
        Due.is("P26 all: had 1", x.ends(0, 1, 0), 36);
        Due.is("P26 all: purse 0", x.ends(0, 0, 1), 94);
        Due.is("P26 all: purse 1", x.ends(0, 1, 1), 92);
        Due.is("P26 all: left 0", x.ends(0, 0, 2), 1023 - 7 - 8 - 64 - 128);
        Due.is("P26 in thought", x.part(0, 11), 1023);
        x.bite(1, 1, 6);
        x.lend(1, 1, 2);
        Due.is("P26 too dear", x.ends(0, 1, 0), 18);
        Due.is("P26 too dear", x.ends(0, 0, 1), 98);
        x.sheet(0, 0, 0);
        Due.is("P26 no bites", x.ends(0, 1, 0), 18);
        Due.is("P26 no bites", x.ends(0, 1, 1), 2);
        Due.is("P26 no bites", x.ends(0, 1, 2), 1020);
    }

    private static void laws() {
        BiteFirst x = table();
        x.lend(0, 1, 10);
        Due.text(x, "pays 5; likes 1; waits 999;");
        Due.text(x, "pays 6; likes 1; waits 0;");
        Due.text(x, "pays (left = 10) * 10; likes 1; waits 0;");
        Due.text(x, "pays (left = 9) * 11; likes 1; waits 0;");
        Due.row(x, 0, 0, 0, 0, 6, 0, 0, 7);
        Due.is("P27 by which texts", x.laws(0), 0b01011);
        Due.is("P27 the law stays", x.count(4), 0);
        x.force(2);
        Due.is("P27 whatever the law is", x.laws(0), 0b01011);
        Due.is("P27 the law stays", x.count(4), 2);
        x.cell(0, 5, 6);
        Due.is("P27 by none", x.laws(0), 0);
        x.sheet(0, 1, 0);
        Due.is("P27 by all", x.laws(0), 0b11111);
        Due.is("P27 sheet 4", x.laws(4), BAD);
        Due.is("P27 sheet -1", x.laws(-1), BAD);
        Due.is("P27 nothing there", x.laws(1), -11);
        x.sheet(0, 1, 1);
        Due.is("P27 not by threes", x.laws(0), BAD);
        Due.row(x, 0, 1, 0, 2, 0);
        Due.is("P27 no such good", x.laws(0), BAD);
        Due.row(x, 0, 1, 2, 0, 0);
        Due.is("P27 no such eater", x.laws(0), BAD);
        Due.row(x, 0, 1, 0, 0, 16);
        Due.is("P27 no such place", x.laws(0), BAD);
    }

    /** The sheet is a row of bytes, of this size. */
    private static void isRowOfBytes(BiteFirst x, int s, int size) {
        Due.is("P28 the size", x.cell(s, size, 0), -12);
        if (size > 0) {
            Due.is("P28 the size", x.copy(s, size - 1, s, size - 1, 1), 1);
        }
        x.sheet(3, 0, 40);
        Due.is("P28 bytes", x.copy(s, 0, 3, 0, size), size);
    }

    private static void films() {
        BiteFirst x = new BiteFirst();
        x.sheet(0, 2, 7);
        Due.is("P28 nobody", x.film(0, 13), 0);
        isRowOfBytes(x, 0, 0);
        x = table();
        x.put(0, 11, 0b0000011101);
        x.put(1, 11, 0b0000000001);
        // 0 bites cell 0 of the good 0 for 2; 1 bites 2 and 3 for 4; 0 cell 4; 1 the cell of good 1.
        x.sheet(1, 1, 3);
        Due.is("P28 four bites", x.film(1, 5), 4);
        isRowOfBytes(x, 1, 12);
        Due.is("P28 they can be", x.judge(1), NONE);
        Due.is("P28 had 0", x.ends(1, 0, 0), 18);
        Due.is("P28 had 1", x.ends(1, 1, 0), 27);
        Due.is("P28 left 0", x.ends(1, 0, 2), 0);
        Due.is("P28 left 1", x.ends(1, 1, 2), 0);
        Due.is("P28 in thought", x.part(0, 11), 0b0000011101);
        Due.is("P28 in thought", x.told(0, 4), 0);
        Due.is("P28 three bites", x.film(1, 3), 3);
        isRowOfBytes(x, 1, 9);
        Due.is("P28 left behind three", x.ends(1, 0, 2), 0);
        Due.is("P28 left behind three", x.ends(1, 1, 2), 1);
        Due.is("P28 no turns", x.film(1, 0), 0);
        isRowOfBytes(x, 1, 0);
        // One who can't pay tells nothing; the others go on.
        x = table();
        x.lend(0, 1, 1);
        Due.is("P28 6 of 13 turns", x.film(0, 13), 6);
        isRowOfBytes(x, 0, 18);
        Due.is("P28 had by 6 bites", x.ends(0, 1, 0), 108);
        Due.is("P28 left by 6 bites", x.ends(0, 1, 2), 1020);
        x.sheet(2, 0, 3);
        Due.is("P28 each cell told", told(x, 0, 0, 1), 1);
        x.lend(0, 1, 100);
        Due.is("P28 13 turns", x.film(0, 13), 13);
        isRowOfBytes(x, 0, 39);
        Due.is("P28 13 bites", x.judge(0), NONE);
        Due.is("P28 13 bites: had 0", x.ends(0, 0, 0), 63);
        Due.is("P28 13 bites: had 1", x.ends(0, 1, 0), 108);
        // 0 takes the place 6 first, then 1 the place 7: cells 1 and 2.
        Due.is("P28 who", told(x, 0, 0, 0), 1);
        Due.is("P28 which good", told(x, 0, 1, 0), 1);
        Due.is("P28 where", told(x, 0, 2, 6), 1);
        Due.is("P28 who", told(x, 0, 3, 1), 1);
        Due.is("P28 which good", told(x, 0, 4, 0), 1);
        Due.is("P28 where", told(x, 0, 5, 7), 1);
        Due.law(x, "cells * 2", "worth", "15");
        Due.is("P28 all wait", x.film(0, 13), 0);
        isRowOfBytes(x, 0, 0);
    }

    /** 1 if number i of a sheet of bytes is v: it is taken for a place, whose mark tells it. */
    private static int told(BiteFirst x, int s, int i, int v) {
        x.image();
        x.sheet(2, 0, 3);
        x.copy(s, i, 2, 2, 1);
        x.put(0, 11, 1023);
        x.lend(1, 0, 0b111111);
        x.lend(1, 1, 100);
        x.cell(2, 0, 1);
        int left = x.ends(2, 0, 2);
        int mark = x.mark(1, 0, v, 0);
        x.back();
        return left == (1023 & ~mark) ? 1 : 0;
    }
}
