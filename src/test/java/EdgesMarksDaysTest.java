import java.util.Arrays;
import java.util.function.Supplier;

/** The edges that the document names in promises 23 to 28: whose a mark is, and told days. */
public final class EdgesMarksDaysTest {

    private static final int NONE = -1, BAD = -2;
    private static final int LEAST = Integer.MIN_VALUE, MOST = Integer.MAX_VALUE;

    public static void main(String[] args) {
        whoseRefuses();
        whoseRefusesInOrder();
        whoseAtTheEdges();
        kindsRefuses();
        kindsRefusesInOrder();
        kindsOfAMark();
        moresOfAMark();
        jawsOfAMark();
        daysRefuseSheets();
        daysRefuseSizes();
        daysRefuseNumbers();
        daysOfFewAndMany();
        judgeTheFirstThatCanNotBe();
        judgesByMoney();
        endsRefuses();
        endsRefusesInOrder();
        endsAheadOfTheFirstThatCanNotBe();
        endsHad9999AtMost();
        lawsOfFewAndMany();
        filmRefuses();
        filmInThought();
        filmOfNobody();
        filmOfFewAndMany();
        filmTellsNothing();
        filmReplacesASheet();
        Due.end("EdgesMarksDaysTest");
    }

    // ---- promise 23

    private static void whoseRefuses() {
        new Twin("P23 whose", Table::laid)
            .is("-5: no such GOOD", -5, x -> x.whose(-1, 2), x -> x.whose(3, 2), x -> x.whose(6, 2), x -> x.whose(LEAST, 2),
                x -> x.whose(MOST, 2))
            .is("-7: one CELL at least", -7, x -> x.whose(0, 0))
            .is("-7: CELLS 0 .. 9", -7, x -> x.whose(0, 1024), x -> x.whose(0, 1026), x -> x.whose(0, -1), x -> x.whose(0, LEAST),
                x -> x.whose(0, MOST), x -> x.whose(2, 2047))
            .is("-7: all LEFT", -7, x -> x.whose(0, 1), x -> x.whose(0, 4), x -> x.whose(0, 3), x -> x.whose(0, 1023),
                x -> x.whose(1, 0b1010))
            .is("EATERS are only asked for", 0b111, x -> x.whose(0, 2))
            .areAlike();
    }

    private static void whoseRefusesInOrder() {
        new Twin("P23 whose", Table::laid)
            .is("-5 ahead of -7", -5, x -> x.whose(-1, 0), x -> x.whose(3, 1024), x -> x.whose(3, -1))
            .areAlike();
    }

    /** "EATERS (bits) of whom any BITE has just this MARK (.. whatever it costs)". */
    private static void whoseAtTheEdges() {
        BiteFirst x = Table.bare();
        x.good(9, 9);
        Due.is("P23 no EATERS", x.whose(0, 1023), 0);
        for (int e = 0; e < 5; e++) {
            x.eater(e == 4 ? 10 : 0, 63);
            x.lend(e, 1, 0);
        }
        Due.is("P23 all, the first cell", x.whose(0, 1), 0b11111);
        Due.is("P23 all, the last cell", x.whose(0, 512), 0b11111);
        Due.is("P23 the last one, seven cells", x.whose(0, 0b1111111), 0b10000);
        Due.is("P23 six cells", x.whose(0, 0b111111), 0b11111);
        Due.is("P23 nobody's", x.whose(0, 1023), 0);
        x.put(0, 11, 0b1000001);
        Due.is("P23 all that are LEFT, by seven bits", x.whose(0, 0b1000001), 0b10000);
        Due.is("P23 just this MARK", x.whose(0, 0b1000000), 0b11111);
        x.put(0, 11, 0);
        Due.is("P23 nothing is LEFT", x.whose(0, 1), -7);
        BiteFirst y = Table.pair(10, 32, 0, 9);
        Due.is("P23 at the first PLACE alone", y.whose(0, 1), 1);
        y.eater(0, 1);
        Due.is("P23 at the last PLACE alone", y.whose(0, 512) & 2, 2);
    }

    // ---- promise 24

    private static void kindsRefuses() {
        for (int k = 0; k < 4; k++) {
            int sort = k;
            new Twin("P24 kinds, sort " + sort, Table::laid)
                .is("-6: no such EATER", -6, x -> x.kinds(-1, 0, 2, sort), x -> x.kinds(3, 0, 2, sort),
                    x -> x.kinds(5, 0, 2, sort), x -> x.kinds(LEAST, 0, 2, sort), x -> x.kinds(MOST, 0, 2, sort))
                .is("-5: no such GOOD", -5, x -> x.kinds(0, -1, 2, sort), x -> x.kinds(0, 3, 2, sort),
                    x -> x.kinds(0, 6, 2, sort), x -> x.kinds(0, LEAST, 2, sort), x -> x.kinds(0, MOST, 2, sort))
                .is("-7: one CELL at least", -7, x -> x.kinds(0, 0, 0, sort))
                .is("-7: CELLS 0 .. 9", -7, x -> x.kinds(0, 0, 1024, sort), x -> x.kinds(0, 0, -1, sort),
                    x -> x.kinds(0, 0, LEAST, sort), x -> x.kinds(0, 0, MOST, sort))
                .is("-7: all LEFT", -7, x -> x.kinds(0, 0, 1, sort), x -> x.kinds(0, 0, 3, sort), x -> x.kinds(0, 0, 1023, sort))
                .areAlike();
        }
        new Twin("P24 kinds", Table::laid)
            .is("-7: sort", -7, x -> x.kinds(0, 0, 2, -1), x -> x.kinds(0, 0, 2, 4), x -> x.kinds(0, 0, 2, LEAST),
                x -> x.kinds(0, 0, 2, MOST))
            .is("KINDS are only asked for", 0b101011, x -> x.kinds(0, 0, 2, 0))
            .is("MORES are only asked for", 1023, x -> x.kinds(0, 0, 2, 1))
            .is("JAWS are only asked for", 1, x -> x.kinds(0, 0, 2, 3))
            .areAlike();
    }

    private static void kindsRefusesInOrder() {
        new Twin("P24 kinds", Table::laid)
            .is("-6 ahead of -5", -6, x -> x.kinds(3, 3, 2, 0), x -> x.kinds(-1, -1, 2, 3))
            .is("-6 ahead of -7: MARK", -6, x -> x.kinds(3, 0, 0, 0), x -> x.kinds(3, 0, 1, 1), x -> x.kinds(-1, 0, 1024, 2))
            .is("-6 ahead of -7: sort", -6, x -> x.kinds(3, 0, 2, 4), x -> x.kinds(-1, 0, 2, -1))
            .is("-5 ahead of -7: MARK", -5, x -> x.kinds(0, 3, 0, 0), x -> x.kinds(0, -1, 1024, 3))
            .is("-5 ahead of -7: sort", -5, x -> x.kinds(0, 3, 2, 4), x -> x.kinds(0, -1, 2, -1))
            .areAlike();
        new Twin("P24 kinds, nobody", Table::bare)
            .is("-6 ahead of all", -6, x -> x.kinds(0, 0, 0, 4))
            .areAlike();
    }

    /** "KINDS (sort 0; bits 0 .. 5) .. by which, were they an EATER's, any BITE would have it". */
    private static void kindsOfAMark() {
        BiteFirst x = Table.pair(8, 63, 4, 9);
        Due.is("P24 a hard good: all but two kinds", x.kinds(0, 0, 1, 0), 0b101011);
        Due.is("P24 six cells: two kinds", x.kinds(0, 0, 63, 0), 0b000011);
        Due.is("P24 seven cells: a WIDE", x.kinds(0, 0, 127, 0), 0b000010);
        Due.is("P24 five cells: a HIRED of MORE 8", x.kinds(0, 0, 0b111110, 0), 0b100000);
        Due.is("P24 eight cells: none", x.kinds(0, 0, 255, 0), 0);
        x.put(0, 10, 5);
        Due.is("P24 a soft good: all kinds", x.kinds(0, 0, 1, 0), 0b111111);
        x.lend(0, 1, 0);
        Due.is("P24 whatever it costs", x.kinds(0, 0, 512, 0), 0b111111);
        BiteFirst hired = Table.pair(50, 32, 5, 9);
        Due.is("P24 what one is doesn't matter", hired.kinds(0, 0, 0b11000, 0), 0b000010);
        Due.is("P24 an EATER's KIND stays", hired.told(0, 0), 5);
    }

    /** "MORE (1; bits 0 .. 9)". */
    private static void moresOfAMark() {
        BiteFirst x = Table.pair(59, 63, 0, 9);
        int[] want = {0b0000000011, 0b0000001100, 0b0000110000, 0b0011000000, 0b1100000000, 0};
        for (int teeth = 1; teeth <= 6; teeth++) {
            Due.is("P24 MORE of " + teeth + " cells", x.kinds(0, 0, ((1 << teeth) - 1) << 2, 1), want[teeth - 1]);
        }
        Due.is("P24 MORE of the first cell", x.kinds(0, 0, 1, 1), 1023);
        Due.is("P24 an EATER's MORE stays", x.told(0, 1), 9);
        BiteFirst y = Table.pair(30, 63, 0, 9);
        Due.is("P24 any MORE of a NIBBLER", y.kinds(0, 0, 16, 1), 1023);
        Due.is("P24 no MORE of a NIBBLER", y.kinds(0, 0, 24, 1), 0);
    }

    /** "JAWS (of 1 .. 63): how many (2), the least (3; -1: none)". */
    private static void jawsOfAMark() {
        jaws("the first JAW", 0, 1, 0b1000000000, 63, 1);
        jaws("the last JAW alone", 0, 1, 0b1111110, 1, 63);
        jaws("none", 0, 63, 0b1111111, 0, NONE);
        jaws("none", 20, 63, 0b1, 0, NONE);
        jaws("all, of a NIBBLER", 30, 1, 0b10000, 63, 1);
        jaws("all, of a HIRED", 50, 1, 0b10000, 63, 1);
        jaws("none, of a HIRED", 50, 1, 0b11000, 0, NONE);
        jaws("seven cells of a WIDE", 10, 63, 0b11111110, 8, 0b101011);
        jaws("the two bits of each JAW of one", 10, 63, 0b110000, 6, 1);
    }

    private static void jaws(String sentence, int kindMore, int jaw, int mark, int count, int least) {
        BiteFirst x = Table.pair(kindMore, jaw, 4, 9);
        // Another one who was asked for ahead of this one changes nothing.
        x.eater(10, 21);
        for (int sort = 0; sort < 4; sort++) {
            x.kinds(1, 0, 1, sort);
            Due.is("P24 " + sentence + ": how many JAWS", x.kinds(0, 0, mark, 2), count);
            x.kinds(1, 0, 1, sort);
            Due.is("P24 " + sentence + ": the least JAW", x.kinds(0, 0, mark, 3), least);
        }
        Due.is("P24 " + sentence + ": the JAW stays", x.told(0, 2), jaw);
    }

    // ---- promises 25 to 27: what refuses a day

    private static Supplier<BiteFirst> withDay(int sort, int... numbers) {
        return () -> {
            BiteFirst x = Table.laid();
            Due.row(x, 3, sort, numbers);
            return x;
        };
    }

    private static void dayIs(String sentence, long want, Supplier<BiteFirst> table, int s) {
        new Twin("P25 to P27, sheet " + s, table)
            .is("judge, " + sentence, want, x -> x.judge(s))
            .is("laws, " + sentence, want, x -> x.laws(s))
            .is("ends, " + sentence, want, x -> x.ends(s, 0, 0), x -> x.ends(s, 0, 1), x -> x.ends(s, 0, 2))
            // It is told ahead of "-7: what; -5: no such EATER, GOOD".
            .is("ends, " + sentence + ", ahead of -7", want, x -> x.ends(s, 0, -1), x -> x.ends(s, 0, 3))
            .is("ends, " + sentence + ", ahead of -5", want, x -> x.ends(s, -1, 0), x -> x.ends(s, 3, 1), x -> x.ends(s, 3, 2))
            .areAlike();
    }

    /** "BAD: SHEET; -11". */
    private static void daysRefuseSheets() {
        for (int s : new int[] {-1, 4, LEAST, MOST}) {
            dayIs("BAD: SHEET", BAD, Table::laid, s);
        }
        dayIs("-11", -11, Table::laid, 3);
        for (int s = 0; s < 4; s++) {
            dayIs("-11, all as at first", -11, Table::bare, s);
        }
    }

    /** "BAD: its size isn't by threes". */
    private static void daysRefuseSizes() {
        for (int size : new int[] {1, 2, 4, 5, 37, 38, 40}) {
            for (int sort = 0; sort < 3; sort++) {
                dayIs("BAD: by threes, size " + size, BAD, withDay(sort, new int[size]), 3);
            }
        }
    }

    /** "BAD: .. no such EATER, GOOD, PLACE": of the first, of the last, behind one that can't be. */
    private static void daysRefuseNumbers() {
        int[][] bad = {{-1, 0, 7}, {3, 0, 7}, {5, 0, 7}, {0, -1, 7}, {0, 3, 7}, {0, 6, 7}, {0, 0, -1}, {0, 0, 16},
            {LEAST, 0, 7}, {MOST, 0, 7}, {0, LEAST, 7}, {0, MOST, 7}, {0, 0, LEAST}, {0, 0, MOST}};
        for (int[] row : bad) {
            String told = "BAD: " + Arrays.toString(row);
            dayIs(told, BAD, withDay(2, row), 3);
            // 0 at the place 0 can't be.
            dayIs(told + " behind", BAD, withDay(2, 0, 0, 0, row[0], row[1], row[2]), 3);
            dayIs(told + " ahead", BAD, withDay(2, row[0], row[1], row[2], 0, 0, 7), 3);
            int[] long39 = new int[39];
            System.arraycopy(row, 0, long39, 36, 3);
            dayIs(told + " last of 13", BAD, withDay(2, long39), 3);
        }
        dayIs("BAD: of bytes", BAD, withDay(0, 0, 0, 128), 3);
        dayIs("BAD: of bytes", BAD, withDay(0, 255, 0, 0), 3);
        dayIs("BAD: of shorts", BAD, withDay(1, 0, 256, 0), 3);
        dayIs("BAD: of shorts", BAD, withDay(1, 0, 0, 32768), 3);
        BiteFirst x = Table.laid();
        Due.row(x, 3, 2, 2, 2, 15);
        Due.is("P25 the last EATER, GOOD, PLACE are taken", x.judge(3), NONE);
        Due.row(x, 3, 2, 0, 0, 0);
        Due.is("P25 the first EATER, GOOD, PLACE are taken", x.judge(3), 0);
        x.back();
        Due.row(x, 3, 2, 1, 0, 15);
        Due.is("P25 the last ones of the image", x.judge(3), NONE);
        Due.row(x, 3, 2, 2, 0, 15);
        Due.is("P25 an EATER that is none since", x.judge(3), BAD);
        Due.row(x, 3, 2, 1, 1, 15);
        Due.is("P25 a GOOD that is none since", x.judge(3), BAD);
    }

    /** Five eaters, six goods, 13 bites of one cell each. */
    private static BiteFirst thirteen(int sort) {
        BiteFirst x = Table.bare();
        for (int e = 0; e < 5; e++) {
            x.eater(0, 1);
        }
        for (int g = 0; g < 6; g++) {
            x.good(0, 9);
        }
        int[] day = new int[39];
        for (int k = 0; k < 13; k++) {
            day[3 * k] = k % 5;
            day[3 * k + 1] = k % 6;
            day[3 * k + 2] = k % 10 + 6;
        }
        Due.row(x, 0, sort, day);
        return x;
    }

    /** A day of no bites, of one, of 13 (40 numbers at most). */
    private static void daysOfFewAndMany() {
        for (int sort = 0; sort < 3; sort++) {
            BiteFirst x = thirteen(sort);
            Due.is("P25 13 bites", x.judge(0), NONE);
            Due.is("P26 had by 13 bites", x.ends(0, 0, 0), 27);
            Due.is("P26 had by 13 bites, the last", x.ends(0, 4, 0), 18);
            Due.is("P26 purse by 13 bites", x.ends(0, 2, 1), 94);
            Due.is("P26 left by 13 bites", x.ends(0, 0, 2), 1023 & ~0b0001000101);
            Due.is("P26 left by 13 bites, the last good", x.ends(0, 5, 2), 1023 & ~0b0000100010);
            Due.is("P27 13 bites", x.laws(0), 1);
            x.sheet(0, sort, 0);
            Due.is("P25 no bites", x.judge(0), NONE);
            Due.is("P26 had by no bites", x.ends(0, 4, 0), 0);
            Due.is("P26 purse by no bites", x.ends(0, 4, 1), 100);
            Due.is("P26 left by no bites", x.ends(0, 5, 2), 1023);
            Due.is("P27 no bites", x.laws(0), 1);
            BiteFirst bare = Table.bare();
            bare.sheet(0, sort, 0);
            Due.is("P25 no bites, nobody", bare.judge(0), NONE);
            Due.is("P26 no bites, nobody", bare.ends(0, 0, 0), -5);
            Due.is("P27 no bites, nobody", bare.laws(0), 1);
            bare.sheet(0, sort, 3);
            Due.is("P25 one bite, nobody", bare.judge(0), BAD);
        }
    }

    // ---- promises 25, 26

    /** "the first (from 0) that CAN not BE; -1: none"; "Behind those ahead of the first that CAN not BE". */
    private static void judgeTheFirstThatCanNotBe() {
        for (int k = 0; k < 13; k++) {
            BiteFirst x = thirteen(0);
            // The place 0 has no cell for a jaw of bit 0.
            x.cell(0, 3 * k + 2, 0);
            Due.is("P25 bite " + k + " can't be", x.judge(0), k);
            int sum = 0;
            int paid = 0;
            for (int e = 0; e < 5; e++) {
                sum += x.ends(0, e, 0);
                paid += 100 - x.ends(0, e, 1);
            }
            Due.is("P26 had ahead of bite " + k, sum, 9 * k);
            Due.is("P26 paid ahead of bite " + k, paid, 2 * k);
            int gone = 0;
            for (int g = 0; g < 6; g++) {
                gone += 10 - Integer.bitCount(x.ends(0, g, 2));
            }
            Due.is("P26 gone ahead of bite " + k, gone, k);
            Due.is("P27 bite " + k + " can't be", x.laws(0), 0);
            if (k < 12) {
                x.cell(0, 38, 0);
                Due.is("P25 the first of two", x.judge(0), k);
            }
        }
    }

    private static void judgesByMoney() {
        BiteFirst x = thirteen(2);
        x.lend(2, 1, 6);
        Due.is("P25 all one has", x.judge(0), NONE);
        Due.is("P26 all one has", x.ends(0, 2, 1), 0);
        x.lend(2, 1, 5);
        Due.is("P25 too dear by 1", x.judge(0), 12);
        Due.is("P26 too dear by 1", x.ends(0, 2, 1), 1);
        Due.is("P26 too dear by 1", x.ends(0, 2, 0), 18);
        Due.law(x, "0", "1", "999");
        x.lend(2, 1, 0);
        Due.is("P25 for nothing, and what waits can be", x.judge(0), NONE);
        Due.is("P26 for nothing", x.ends(0, 2, 0), 3);
    }

    // ---- promise 26

    private static void endsRefuses() {
        new Twin("P26 ends", Table::laid)
            .is("-7: what", -7, x -> x.ends(0, 0, -1), x -> x.ends(0, 0, 3), x -> x.ends(0, 0, LEAST), x -> x.ends(0, 0, MOST))
            .is("-5: no such EATER", -5, x -> x.ends(0, -1, 0), x -> x.ends(0, 3, 0), x -> x.ends(0, 5, 0),
                x -> x.ends(0, LEAST, 0), x -> x.ends(0, MOST, 0), x -> x.ends(0, -1, 1), x -> x.ends(0, 3, 1),
                x -> x.ends(0, LEAST, 1), x -> x.ends(0, MOST, 1))
            .is("-5: no such GOOD", -5, x -> x.ends(0, -1, 2), x -> x.ends(0, 3, 2), x -> x.ends(0, 6, 2),
                x -> x.ends(0, LEAST, 2), x -> x.ends(0, MOST, 2))
            .is("a day is in thought", 77 - 3, x -> x.ends(0, 0, 1))
            .is("a day is in thought", 1023 - 28 - 64 - 256, x -> x.ends(0, 1, 2))
            .is("a day is in thought", NONE, x -> x.judge(0))
            .is("a day is in thought", 0b11, x -> x.laws(0))
            .areAlike();
        BiteFirst x = Table.pair(0, 1, 0, 9);
        x.good(0, 9);
        x.sheet(0, 0, 0);
        Due.is("P26 ends: a GOOD where no EATER is", x.ends(0, 1, 2), 1023);
        Due.is("P26 ends: no EATER where a GOOD is", x.ends(0, 1, 0), -5);
        BiteFirst y = Table.pair(0, 1, 0, 9);
        y.eater(0, 1);
        y.sheet(0, 0, 0);
        Due.is("P26 ends: an EATER where no GOOD is", y.ends(0, 1, 1), 100);
        Due.is("P26 ends: no GOOD where an EATER is", y.ends(0, 1, 2), -5);
    }

    private static void endsRefusesInOrder() {
        new Twin("P26 ends", Table::laid)
            .is("-7 ahead of -5", -7, x -> x.ends(0, -1, -1), x -> x.ends(0, 3, 3), x -> x.ends(0, 6, 3))
            .areAlike();
    }

    private static void endsAheadOfTheFirstThatCanNotBe() {
        BiteFirst x = Table.pair(0, 1, 0, 9);
        x.bite(0, 0, 6);
        Due.row(x, 0, 0, 0, 0, 6, 0, 0, 7);
        Due.is("P25 the first of all can't be", x.judge(0), 0);
        Due.is("P26 as it is", x.ends(0, 0, 0), 9);
        Due.is("P26 as it is", x.ends(0, 0, 1), 98);
        Due.is("P26 as it is", x.ends(0, 0, 2), 1022);
        x.cell(0, 2, 8);
        x.cell(0, 5, 8);
        Due.is("P25 the last of all can't be", x.judge(0), 1);
        Due.is("P26 behind one", x.ends(0, 0, 0), 18);
        Due.is("P26 behind one", x.ends(0, 0, 1), 96);
        Due.is("P26 behind one", x.ends(0, 0, 2), 1018);
        x.cell(0, 5, 9);
        Due.is("P25 none", x.judge(0), NONE);
        Due.is("P26 all, if there is none", x.ends(0, 0, 0), 27);
        Due.is("P26 all, if there is none", x.ends(0, 0, 1), 94);
        Due.is("P26 all, if there is none", x.ends(0, 0, 2), 1010);
    }

    /** "(9999 at most)", in thought, too. */
    private static void endsHad9999AtMost() {
        BiteFirst x = Table.pair(0, 63, 0, 99);
        Due.law(x, "0", "worth", "0");
        for (int k = 1; k <= 16; k++) {
            x.put(0, 11, 1023);
            x.bite(0, 0, 6);
        }
        x.put(0, 11, 0b11111);
        Due.row(x, 0, 0, 0, 0, 6);
        Due.is("P26 just 9999", x.ends(0, 0, 0), 9999);
        x.put(0, 4, 98);
        Due.is("P26 9998", x.ends(0, 0, 0), 9998);
        x.put(0, 11, 0b111111);
        Due.is("P26 9999 at most", x.ends(0, 0, 0), 9999);
        Due.is("P26 in thought", x.told(0, 4), 9504);
    }

    // ---- promise 27

    /** "TEXTS (bits), were they THE LAW, by which judge() would be -1": of one text, of six. */
    private static void lawsOfFewAndMany() {
        BiteFirst x = Table.pair(0, 1, 0, 9);
        Due.row(x, 0, 0, 0, 0, 6, 0, 0, 7);
        Due.is("P27 one text", x.laws(0), 1);
        x.lend(0, 1, 3);
        Due.is("P27 by none", x.laws(0), 0);
        for (int t = 1; t < 6; t++) {
            Due.text(x, "pays " + t + ";likes 1;waits 999;");
        }
        int[] purses = {0, 1, 2, 3, 4, 8, 9, 10, 9999};
        int[] want = {0, 0, 0b10, 0b10, 0b111, 0b11111, 0b11111, 0b111111, 0b111111};
        for (int k = 0; k < purses.length; k++) {
            x.lend(0, 1, purses[k]);
            Due.is("P27 by which of six, PURSE " + purses[k], x.laws(0), want[k]);
            Due.is("P27 THE LAW stays", x.count(4), 0);
        }
        x.force(5);
        Due.is("P27 whatever THE LAW is", x.laws(0), 0b111111);
        Due.is("P27 THE LAW stays", x.count(4), 5);
        x.lend(0, 1, 2);
        Due.is("P27 whatever THE LAW is", x.laws(0), 0b10);
    }

    // ---- promise 28

    private static void filmRefuses() {
        new Twin("P28 film", Table::laid)
            .is("BAD: SHEET", BAD, x -> x.film(-1, 3), x -> x.film(4, 3), x -> x.film(LEAST, 3), x -> x.film(MOST, 3))
            .is("BAD: n", BAD, x -> x.film(0, -1), x -> x.film(0, 14), x -> x.film(0, LEAST), x -> x.film(0, MOST),
                x -> x.film(1, -1), x -> x.film(2, 14), x -> x.film(3, 14))
            .areAlike();
        new Twin("P28 film, nobody", Table::bare)
            .is("BAD, nobody", BAD, x -> x.film(0, 14), x -> x.film(4, 0))
            .areAlike();
    }

    /** "A SHEET truly becomes .. in thought": it, and nothing else. */
    private static void filmInThought() {
        new Twin("P28 film", Table::laid)
            .is("13 turns of three", 13, x -> x.film(3, 13))
            .is("the sheet is missing again", 1, x -> x.sheet(3, -1, 0))
            .areAlike();
    }

    /** The numbers of a sheet of bytes (0 .. 15): each is taken for a PLACE where six bits bite a whole good. */
    private static int[] numbers(BiteFirst x, int s, int size) {
        int scratch = s == 3 ? 2 : 3;
        int[] found = new int[size];
        x.image();
        x.lend(0, 0, 63);
        x.lend(0, 1, 9999);
        x.put(0, 11, 1023);
        x.sheet(scratch, 0, 3);
        for (int i = 0; i < size; i++) {
            x.copy(s, i, scratch, 2, 1);
            int left = x.ends(scratch, 0, 2);
            found[i] = NONE;
            for (int at = 0; at < 16; at++) {
                found[i] = (63 << at >> 6 & 1023) == 1023 - left ? at : found[i];
            }
        }
        x.back();
        return found;
    }

    private static void tells(String sentence, BiteFirst x, int s, int... want) {
        Due.is("P28 " + sentence + ": the size", x.copy(s, want.length, s, want.length, 0), 0);
        Due.is("P28 " + sentence + ": the size", x.cell(s, want.length, 0), -12);
        Due.is("P28 " + sentence + ": bytes", x.eatersBy(s, 0, 0, 0), 0);
        Due.is("P28 " + sentence + ": no shorts", x.eatersBy(s, 1, 0, 0), -13);
        int[] got = numbers(x, s, want.length);
        Due.isTrue("P28 " + sentence + ": " + Arrays.toString(got) + ", due is " + Arrays.toString(want), Arrays.equals(got, want));
    }

    /** "how many do (0: no EATERS)": the sheet becomes a row of none. */
    private static void filmOfNobody() {
        for (int n : new int[] {0, 1, 13}) {
            BiteFirst x = Table.bare();
            x.good(0, 9);
            x.sheet(0, 2, 5);
            Due.is("P28 no EATERS, " + n, x.film(0, n), 0);
            Due.is("P28 no EATERS: no numbers", x.cell(0, 0, 0), -12);
            Due.is("P28 no EATERS: bytes", x.eatersBy(0, 0, 0, 0), 0);
            Due.is("P28 no EATERS, a missing sheet", x.film(3, n), 0);
            Due.is("P28 no EATERS, a missing sheet: no numbers", x.cell(3, 0, 0), -12);
        }
    }

    /** "n (0 .. 13) TURNS .. in TURN k EATER (k modulo how many there are)". */
    private static void filmOfFewAndMany() {
        for (int eaters = 1; eaters <= 5; eaters++) {
            for (int n : new int[] {0, 1, eaters, 12, 13}) {
                BiteFirst x = Table.bare();
                for (int e = 0; e < eaters; e++) {
                    x.eater(0, 1);
                }
                x.good(0, 9);
                x.good(0, 9);
                int[] want = new int[3 * n];
                for (int k = 0; k < n; k++) {
                    want[3 * k] = k % eaters;
                    want[3 * k + 1] = k / 10;
                    want[3 * k + 2] = k % 10 + 6;
                }
                Due.is("P28 " + n + " turns of " + eaters, x.film(1, n), n);
                tells(n + " turns of " + eaters, x, 1, want);
            }
        }
    }

    /** "does the BEST BITE, if there is one (else it tells nothing)". */
    private static void filmTellsNothing() {
        BiteFirst x = Table.pair(0, 1, 0, 9);
        x.eater(0, 1);
        x.eater(0, 1);
        x.lend(0, 1, 1);
        x.lend(1, 1, 4);
        Due.is("P28 one has none, one has two", x.film(1, 13), 6);
        tells("one has none, one has two", x, 1, 1, 0, 6, 2, 0, 7, 1, 0, 8, 2, 0, 9, 2, 0, 10, 2, 0, 11);
        x.put(0, 11, 0b1000000001);
        Due.is("P28 two cells are LEFT", x.film(1, 13), 2);
        tells("two cells are LEFT", x, 1, 1, 0, 6, 2, 0, 15);
        x.put(0, 11, 0);
        Due.is("P28 nothing is LEFT", x.film(1, 13), 0);
        tells("nothing is LEFT", x, 1);
        BiteFirst y = Table.bare();
        y.eater(0, 1);
        Due.is("P28 no GOODS", y.film(1, 13), 0);
        Due.is("P28 no GOODS: no numbers", y.cell(1, 0, 0), -12);
        BiteFirst z = Table.bare();
        for (int e = 0; e < 5; e++) {
            z.eater(0, 1);
            z.lend(e, 1, e == 4 ? 2 : 1);
        }
        for (int g = 0; g < 6; g++) {
            z.good(0, 3);
            z.put(g, 11, g == 5 ? 512 : 0);
        }
        Due.is("P28 the last eater, good, place", z.film(3, 13), 1);
        tells("the last eater, good, place", z, 3, 4, 5, 15);
        Due.is("P28 the turn ahead of that one's", z.film(3, 4), 0);
        Due.is("P28 that one's turn", z.film(3, 5), 1);
    }

    /** Whatever the sheet was, it becomes the row: none of its numbers stays. */
    private static void filmReplacesASheet() {
        BiteFirst x = Table.pair(0, 1, 0, 9);
        for (int sort = -1; sort < 3; sort++) {
            x.sheet(1, sort, 40);
            for (int i = 0; i < 40 && sort >= 0; i++) {
                x.cell(1, i, 99);
            }
            Due.is("P28 a sheet of sort " + sort, x.film(1, 2), 2);
            tells("a sheet of sort " + sort, x, 1, 0, 0, 6, 0, 0, 7);
        }
    }
}
