/** Promises 1 to 7: a new object, the day, the tape, texts, the law. */
public final class DayAndLawTest {

    private static final int BAD = -2, STATE = -3, FULL = -4;

    public static void main(String[] args) {
        newObject();
        counts();
        setsTheDay();
        feeds();
        readsTexts();
        tellsFaults();
        tellsFaultsOfWords();
        tellsFaultsOfDepth();
        readsManyLongTexts();
        keepsSixTexts();
        forces();
        asks();
        reckons();
        Due.end("DayAndLawTest");
    }

    private static void newObject() {
        BiteFirst x = new BiteFirst();
        Due.is("P1 eaters", x.count(0), 0);
        Due.is("P1 goods", x.count(1), 0);
        Due.is("P1 day", x.count(2), 0);
        Due.is("P1 texts", x.count(3), 1);
        Due.is("P1 law", x.count(4), 0);
        Due.is("P1 tape", x.count(5), 0);
        Due.is("P1 no eater", x.told(0, 0), -5);
        Due.is("P1 no good", x.part(0, 0), -5);
        Due.is("P1 no image", x.back(), STATE);
        for (int s = 0; s < 4; s++) {
            Due.is("P1 no sheet", x.judge(s), -11);
        }
        BiteFirst y = new BiteFirst();
        y.good(0, 1);
        Due.is("P1 objects are apart", x.count(1), 0);
    }

    private static void counts() {
        BiteFirst x = new BiteFirst();
        x.eater(0, 1);
        x.eater(0, 1);
        x.good(1, 1);
        x.good(1, 1);
        x.good(1, 1);
        x.set(42);
        Due.law(x, "1", "1", "1");
        Due.feed(x, "abcdefg");
        Due.is("P2 count(0)", x.count(0), 2);
        Due.is("P2 count(1)", x.count(1), 3);
        Due.is("P2 count(2)", x.count(2), 42);
        Due.is("P2 count(3)", x.count(3), 2);
        Due.is("P2 count(4)", x.count(4), 1);
        Due.is("P2 count(5)", x.count(5), 7);
        Due.is("P2 count(6)", x.count(6), BAD);
        Due.is("P2 count(-1)", x.count(-1), BAD);
        Due.is("P2 count(least)", x.count(Integer.MIN_VALUE), BAD);
    }

    private static void setsTheDay() {
        BiteFirst x = new BiteFirst();
        Due.is("P3 set(5)", x.set(5), 0);
        Due.is("P3 set(99)", x.set(99), 5);
        Due.is("P3 set(100)", x.set(100), -7);
        Due.is("P3 set(-1)", x.set(-1), -7);
        Due.is("P3 the day stays", x.count(2), 99);
        Due.is("P3 set(0)", x.set(0), 99);
        Due.is("P3 the day", x.count(2), 0);
    }

    private static void feeds() {
        BiteFirst x = new BiteFirst();
        Due.is("P4 one", x.feed(1, 'p', 'x', 'x', 'x', 'x'), 1);
        Due.is("P4 two", x.feed(2, 'a', 'y', 'x', 'x', 'x'), 3);
        Due.is("P4 three", x.feed(3, 's', ' ', '7', 'x', 'x'), 6);
        Due.is("P4 four", x.feed(4, ';', 'l', 'i', 'k', 'x'), 10);
        Due.is("P4 five", x.feed(5, 'e', 's', ' ', '8', ';'), 15);
        Due.feed(x, "waits 9;");
        Due.is("P4 all came in order", x.text(), 1);
        x.force(1);
        x.eater(0, 1);
        x.good(0, 0);
        Due.is("P4 pays", x.asks(0, 0, 0, 0), 7);
        Due.is("P4 likes", x.asks(1, 0, 0, 0), 8);
        Due.is("P4 waits", x.asks(2, 0, 0, 0), 9);
        Due.is("P4 n 0", x.feed(0, 0, 0, 0, 0, 0), BAD);
        Due.is("P4 n 6", x.feed(6, 0, 0, 0, 0, 0), BAD);
        Due.is("P4 n -1", x.feed(-1, 0, 0, 0, 0, 0), BAD);
        Due.is("P4 a 256", x.feed(1, 256, 0, 0, 0, 0), BAD);
        Due.is("P4 b 256", x.feed(1, 0, 256, 0, 0, 0), BAD);
        Due.is("P4 c 256", x.feed(1, 0, 0, 256, 0, 0), BAD);
        Due.is("P4 d 256", x.feed(1, 0, 0, 0, 256, 0), BAD);
        Due.is("P4 e 256", x.feed(1, 0, 0, 0, 0, 256), BAD);
        Due.is("P4 a -1", x.feed(5, -1, 0, 0, 0, 0), BAD);
        Due.is("P4 b -1", x.feed(5, 0, -1, 0, 0, 0), BAD);
        Due.is("P4 c -1", x.feed(5, 0, 0, -1, 0, 0), BAD);
        Due.is("P4 d -1", x.feed(5, 0, 0, 0, -1, 0), BAD);
        Due.is("P4 e -1", x.feed(5, 0, 0, 0, 0, -1), BAD);
        Due.is("P4 nothing came", x.count(5), 0);
        Due.is("P4 bytes 0 and 255", x.feed(5, 0, 255, 0, 255, 0), 5);
        for (int k = 1; k < 31; k++) {
            x.feed(5, ' ', ' ', ' ', ' ', ' ');
        }
        Due.is("P4 158", x.feed(3, ' ', ' ', ' ', ' ', ' '), 158);
        Due.is("P4 no room for three", x.feed(3, 1, 1, 1, 1, 1), FULL);
        Due.is("P4 none came", x.count(5), 158);
        Due.is("P4 160", x.feed(2, 1, 1, 1, 1, 1), 160);
        Due.is("P4 no room for one", x.feed(1, 1, 1, 1, 1, 1), FULL);
        Due.is("P4 BAD ahead of FULL", x.feed(1, 1, 1, 1, 1, 256), BAD);
        Due.is("P4 BAD n ahead of FULL", x.feed(6, 1, 1, 1, 1, 1), BAD);
        Due.is("P4 still 160", x.count(5), 160);
    }

    private static void readsTexts() {
        BiteFirst x = new BiteFirst();
        Due.is("P5 the first", Due.text(x, "pays 1 ; likes 2 ; waits 3 ;"), 1);
        Due.is("P5 the tape is empty", x.count(5), 0);
        Due.is("P5 no law by itself", x.count(4), 0);
        Due.is("P5 without blanks", Due.text(x, "pays1;likes2;waits3;"), 2);
        Due.is("P5 with blanks", Due.text(x, "\n pays\n\n1 ;\nlikes  2\n;waits 3;  \n"), 3);
        Due.is("P5 all there is", Due.text(x,
                "pays not cells<worth*2 or soft=more and left+day-1<3;likes-(1)*--2;waits(0001);"), 4);
        Due.is("P5 texts", x.count(3), 5);
        String most = "pays 1;likes 1;waits 1";
        StringBuilder long160 = new StringBuilder(most);
        while (long160.length() < 159) {
            long160.append(' ');
        }
        Due.is("P5 160 bytes", Due.text(x, long160.append(';').toString()), 5);
    }

    /** The text's fault is where its head ends. */
    private static void faultBehind(String head, String rest) {
        BiteFirst x = new BiteFirst();
        Due.is("P5 " + head + "|" + rest, Due.text(x, head + rest), -100 - head.length());
        Due.is("P5 the tape is empty behind a fault", x.count(5), 0);
        Due.is("P5 no text behind a fault", x.count(3), 1);
    }

    private static void tellsFaults() {
        String tail = ";likes 1;waits 1;";
        faultBehind("", "");
        faultBehind("  \n", "");
        faultBehind("pays", "");
        faultBehind("pays ", "");
        faultBehind("pays 1", "");
        faultBehind("pays 1;likes 1;waits 1", "");
        faultBehind("pays 1;likes 1;waits 1 \n", "");
        faultBehind("pays 1;likes 1;waits 1 ; ", "pays");
        faultBehind("pays 1;likes 1;waits 1 ;", ";");
        faultBehind("", "likes 1;pays 1;waits 1;");
        faultBehind("pays 1;", "waits 1;likes 1;");
        faultBehind("pays 1;likes 1;", "pays 1;");
        faultBehind("", "1;likes 1;waits 1;");
        faultBehind("pays ", tail);
        faultBehind("pays 1 ", "2" + tail);
        faultBehind("pays 1 ", "cells" + tail);
        faultBehind("pays 1 ", "(2)" + tail);
        faultBehind("pays 1 ", "not 2" + tail);
        faultBehind("pays 1 + ", "not 2" + tail);
        faultBehind("pays 1 = ", "not 2" + tail);
        faultBehind("pays 1 < 2 ", "< 3" + tail);
        faultBehind("pays 1 = 2 ", "= 3" + tail);
        faultBehind("pays not 1 < 2 ", "= 3" + tail);
        faultBehind("pays 1 + ", "+ 2" + tail);
        faultBehind("pays ", "+ 2" + tail);
        faultBehind("pays ", "* 2" + tail);
        faultBehind("pays 1 or ", "or 2" + tail);
        faultBehind("pays ", "and 2" + tail);
        faultBehind("pays 1 and ", "or 2" + tail);
        faultBehind("pays 1 + ", "");
        faultBehind("pays - ", tail);
        faultBehind("pays not ", tail);
        faultBehind("pays (1", tail);
        faultBehind("pays (1 ", "2)" + tail);
        faultBehind("pays (", ")" + tail);
        faultBehind("pays (", "");
        faultBehind("pays (1)", ")" + tail);
        faultBehind("pays 1", ")" + tail);
        faultBehind("pays ", "pays" + tail);
        faultBehind("pays 1;", ";likes 1;waits 1;");
        faultBehind("pays 1", "$" + tail);
        faultBehind("pays 1", "\t" + tail);
        faultBehind("pays 1", "\r\n" + tail);
        faultBehind("pays 1", ">2" + tail);
        faultBehind("pays 1", "/2" + tail);
        faultBehind("pays 1", (char) 0 + tail);
        faultBehind("pays 1", (char) 255 + tail);
        faultBehind("pays 1", (char) 11 + tail);
        faultBehind("pays 1", (char) 12 + tail);
        faultBehind("", "Pays 1" + tail);
        faultBehind("", "pay 1" + tail);
        faultBehind("", "payscells" + tail);
        faultBehind("pays 1;", "like 1;waits 1;");
        faultBehind("pays 1 ", "orcells" + tail);
        faultBehind("pays ", "cell" + tail);
        faultBehind("pays ", "cellss" + tail);
        faultBehind("pays ", "x" + tail);
        faultBehind("pays 12", "ab" + tail);
        faultBehind("pays cells", "2" + tail);
        faultBehind("pays cells + ", "12345" + tail);
        faultBehind("pays ", "00001" + tail);
        faultBehind("pays 1 ", "99999" + tail);
        faultBehind("pays ", "`" + tail);
        faultBehind("pays ", "{" + tail);
        faultBehind("pays ", ":" + tail);
        faultBehind("pays 1;likes ", ";waits 1;");
        faultBehind("pays 1;likes 1;waits ", ";");
        Due.is("P5 four digits", Due.text(new BiteFirst(), "pays 9999;likes 0000;waits 1234;"), 1);
    }

    private static void tellsFaultsOfWords() {
        String tail = ";likes 1;waits 1;";
        String[] names = {"cells", "worth", "soft", "more", "left", "day"};
        for (String name : names) {
            int n = name.length();
            faultBehind("pays ", "x" + name.substring(1) + tail);
            faultBehind("pays ", name.substring(0, n - 1) + "x" + tail);
            faultBehind("pays ", name.substring(0, n - 1) + tail);
            faultBehind("pays ", name + name.charAt(n - 1) + tail);
            faultBehind("pays ", name.substring(0, 1) + "x" + name.substring(2) + tail);
            faultBehind("", name + " 1" + tail);
        }
        faultBehind("", "says 1" + tail);
        faultBehind("pays 1;", "bikes 1;waits 1;");
        faultBehind("pays 1;likes 1;", "baits 1;");
        faultBehind("pays 1;likes 1;", "waist 1;");
        faultBehind("pays 1 ", "nr 1" + tail);
        faultBehind("pays 1 ", "on 1" + tail);
        faultBehind("pays 1 ", "end 1" + tail);
        faultBehind("pays 1 ", "ant 1" + tail);
        faultBehind("pays ", "dot 1" + tail);
        faultBehind("pays ", "nor 1" + tail);
        faultBehind("pays ", "or 1" + tail);
        faultBehind("pays ", "likes" + tail);
        faultBehind("pays ", "waits" + tail);
        faultBehind("pays 1 or ", "and 1" + tail);
        faultBehind("pays 1;likes 1 ", "waits 1;");
    }

    private static void readsManyLongTexts() {
        BiteFirst x = new BiteFirst();
        x.eater(0, 1);
        x.good(0, 1);
        String all = "pays 1+2+3+4+5+6+7+8+9+1+2+3+4+5+6+7+8+9+1+2+3+4+5+6+7+8+9+1+2+3+4+5+6+7+8+9;likes ";
        for (int k = 0; k < 5; k++) {
            Due.is("P5 too early", Due.text(x, all), -100 - all.length());
        }
        Due.is("P5 a long one", Due.text(x, all + "2*3*4;waits 8-7-1+day*1*1*1*1*1*1*1;"), 1);
        Due.is("P5 a short one", Due.text(x, "pays 5;likes 6;waits 7;"), 2);
        Due.is("P5 the long one again", Due.text(x, all + "2*3*4;waits 8-7-1+day*1*1*1*1*1*1*1;"), 3);
        Due.text(x, "pays 99999999999999999999999999");
        Due.is("P5 nothing behind the tape is read", Due.text(x, "pays 99"), -107);
        Due.text(x, "pays cellscellscellscells");
        Due.is("P5 nothing behind the tape is read", Due.text(x, "pays cells"), -110);
        Due.text(x, "pays 1                    ");
        Due.is("P5 nothing behind the tape is read", Due.text(x, "pays 1 "), -107);
        int[][] say = {{0, 0, 0}, {180, 24, 9}, {5, 6, 7}, {180, 24, 9}};
        x.set(9);
        for (int t = 1; t < 4; t++) {
            x.force(t);
            for (int part = 0; part < 3; part++) {
                Due.is("P5 text " + t + " says", x.asks(part, 0, 0, 0), say[t][part]);
            }
        }
    }

    private static void tellsFaultsOfDepth() {
        String tail = ";likes 1;waits 1;";
        String[] fine = {"(((((1)))))", "not not not not not 1", "-----1", "not(-(not 1))", "(((((1)))))+(((((1)))))",
            "not not not not not 1 and (1)", "not not not not not 1 or not 1", "-----1+-1", "-----1*(1)",
            "(((((1+2)))))*(2)", "not not not not not 1<2+3", "not not not(1)and not not not not not 1",
            "((((-1))))+((((-1))))", "((((not 1))))"};
        for (String e : fine) {
            Due.is("P5 " + e, Due.text(new BiteFirst(), "pays " + e + tail), 1);
            Due.is("P5 likes " + e, Due.text(new BiteFirst(), "pays 1;likes " + e + ";waits 1;"), 1);
            Due.is("P5 waits " + e, Due.text(new BiteFirst(), "pays 1;likes 1;waits " + e + ";"), 1);
        }
        faultBehind("pays 1;likes (((((", "(1)))))); waits 1;");
        faultBehind("pays 1;likes 1;waits (((((", "(1))))));");
        faultBehind("pays (((((", "(1))))))" + tail);
        faultBehind("pays not not not not not ", "not 1" + tail);
        faultBehind("pays -----", "-1" + tail);
        faultBehind("pays (((((", "not 1)))))" + tail);
        faultBehind("pays (((((", "-1)))))" + tail);
        faultBehind("pays (((((1+", "-1)))))" + tail);
        faultBehind("pays (((((1))))*", "");
        faultBehind("pays (((((1)+(", "(1))))))" + tail);
        faultBehind("pays not not not not not ", "(1)" + tail);
        faultBehind("pays not not not not not 1 = ", "(1)" + tail);
        faultBehind("pays not not not not not 1 + 2 * ", "-1" + tail);
        faultBehind("pays -----", "(1)" + tail);
        faultBehind("pays not(not(not ", "not 1))" + tail);
        faultBehind("pays (((((", "(");
        faultBehind("pays -(-(-", "-1))" + tail);
    }

    private static void keepsSixTexts() {
        BiteFirst x = new BiteFirst();
        for (int t = 1; t < 6; t++) {
            Due.is("P5 text " + t, Due.text(x, "pays " + t + ";likes 1;waits 1;"), t);
        }
        Due.is("P5 six texts", x.count(3), 6);
        Due.feed(x, "pays $");
        Due.is("P5 FULL ahead of the FAULT", x.text(), FULL);
        Due.is("P5 the tape stays", x.count(5), 6);
        Due.is("P5 FULL once more", x.text(), FULL);
        Due.is("P5 still six texts", x.count(3), 6);
    }

    private static void forces() {
        BiteFirst x = new BiteFirst();
        x.eater(0, 1);
        x.good(0, 3);
        Due.is("P6 no text 1", x.force(1), BAD);
        Due.is("P6 no text -1", x.force(-1), BAD);
        Due.is("P6 no text 6", x.force(6), BAD);
        Due.text(x, "pays 7;likes 8;waits 9;");
        Due.is("P6 force(1)", x.force(1), 0);
        Due.is("P6 the law", x.count(4), 1);
        Due.is("P6 its price", x.asks(0, 0, 0, 0), 7);
        Due.is("P6 force(1) again", x.force(1), 1);
        Due.is("P6 no text 2", x.force(2), BAD);
        Due.is("P6 the law stays", x.count(4), 1);
        Due.is("P6 force(0)", x.force(0), 1);
        Due.is("P6 the first law's price", x.asks(0, 0, 0, 400), 8);
    }

    private static void asks() {
        BiteFirst x = new BiteFirst();
        x.eater(59, 63);
        x.good(9, 99);
        Due.is("P7 pays", x.asks(0, 0, 0, 355), 6);
        Due.is("P7 likes", x.asks(1, 0, 0, 355), 55);
        Due.is("P7 waits", x.asks(2, 0, 0, 355), 0);
        Due.is("P7 least", x.asks(0, 0, 0, 0), 0);
        Due.is("P7 most cells", x.asks(0, 0, 0, 1099), 20);
        Due.is("P7 most worth", x.asks(1, 0, 0, 1099), 99);
        Due.is("P7 part 3", x.asks(3, 0, 0, 0), BAD);
        Due.is("P7 part -1", x.asks(-1, 0, 0, 0), BAD);
        Due.is("P7 no eater", x.asks(0, 1, 0, 0), BAD);
        Due.is("P7 no eater -1", x.asks(0, -1, 0, 0), BAD);
        Due.is("P7 no good", x.asks(0, 0, 1, 0), BAD);
        Due.is("P7 no good -1", x.asks(0, 0, -1, 0), BAD);
        Due.is("P7 cells 11", x.asks(0, 0, 0, 1100), BAD);
        Due.is("P7 below 0", x.asks(0, 0, 0, -1), BAD);
        Due.law(x, "worth * 20", "worth * 2", "worth * 30");
        Due.is("P7 pays at most 999", x.asks(0, 0, 0, 50), 999);
        Due.is("P7 pays below that", x.asks(0, 0, 0, 49), 980);
        Due.is("P7 likes at most 99", x.asks(1, 0, 0, 50), 99);
        Due.is("P7 likes below that", x.asks(1, 0, 0, 49), 98);
        Due.is("P7 waits at most 999", x.asks(2, 0, 0, 34), 999);
        Due.is("P7 waits below that", x.asks(2, 0, 0, 33), 990);
        Due.law(x, "0 - worth", "0 - worth", "0 - worth");
        for (int part = 0; part < 3; part++) {
            Due.is("P7 at least 0", x.asks(part, 0, 0, 5), 0);
        }
        Due.law(x, "soft * 100 + more", "left", "day");
        Due.is("P7 soft, more", x.asks(0, 0, 0, 0), 909);
        Due.is("P7 left", x.asks(1, 0, 0, 0), 10);
        x.put(0, 11, 1 + 4 + 512);
        Due.is("P7 left, some eaten", x.asks(1, 0, 0, 0), 3);
        Due.is("P7 day 0", x.asks(2, 0, 0, 0), 0);
        x.set(77);
        Due.is("P7 day 77", x.asks(2, 0, 0, 0), 77);
    }

    private static void says(String e, int want) {
        BiteFirst x = new BiteFirst();
        x.eater(3, 7);
        x.good(4, 50);
        x.set(6);
        Due.law(x, e, "1", "0");
        Due.is("P7 " + e, x.asks(0, 0, 0, 207), want);
    }

    private static void reckons() {
        says("cells", 2);
        says("worth", 7);
        says("soft", 4);
        says("more", 3);
        says("left", 10);
        says("day", 6);
        says("0 or 0", 0);
        says("5 or 0", 1);
        says("0 or -2", 1);
        says("3 or 4", 1);
        says("5 and 3", 1);
        says("5 and 0", 0);
        says("0 and 5", 0);
        says("not 0", 1);
        says("not 7", 0);
        says("not not 7", 1);
        says("1 < 2", 1);
        says("2 < 2", 0);
        says("3 < 2", 0);
        says("-1 < 0", 1);
        says("2 = 2", 1);
        says("2 = 3", 0);
        says("3 + 4", 7);
        says("10 - 3 - 2", 5);
        says("10 - (3 - 2)", 9);
        says("10 - 3 + 2", 9);
        says("2 + 3 * 4", 14);
        says("2 * 3 + 4", 10);
        says("(2 + 3) * 4", 20);
        says("2 * 3 * 4", 24);
        says("-3 + 5", 2);
        says("5 - -3", 8);
        says("2 * -3 + 10", 4);
        says("--4", 4);
        says("1 or 0 and 0", 1);
        says("(1 or 0) and 0", 0);
        says("0 and 0 or 1", 1);
        says("not 0 and 0", 0);
        says("not (0 and 0)", 1);
        says("not 1 or 1", 1);
        says("not 1 = 2", 1);
        says("(not 1) = 2", 0);
        says("not 0 + 5", 0);
        says("1 + 2 = 3", 1);
        says("1 < 2 + 5", 1);
        says("1 + (2 = 2) * 8", 9);
        says("(1 < 2) < 1", 0);
        says("2 = 2 and 3 = 3", 1);
        says("9999", 999);
        says("0012", 12);
        says("0 - 5", 0);
        says("1000 - 1", 999);
        says("9999 * 9999 * 30 < 0", 1);
        says("9999 * 9999 * 9999 * 9999 = 6974 * 9999 * 9999 + 0", 9999 * 9999 * 9999 * 9999 == 6974 * 9999 * 9999 ? 1 : 0);
        says("9999*9999*9999*9999*9999*9999*9999 < 0", 9999 * 9999 * 9999 * 9999 * 9999 * 9999 * 9999 < 0 ? 1 : 0);
        says("1or 1and 1<1+1*(1or 1and 1<1+1*(1or 1and 1<1+1*(1or 1and 1<1+1*(1or 1and 1<1+1*(1or 1and 1<1+1*1)))))", 1);
        says("0or 1and 0<1+1*(0or 1and 0<1+1*(0or 1and 0<1+1*(0or 1and 0<1+1*(0or 1and 0<1+1*(0or 1and 0<1+1*2)))))", 1);
        says("9-(8-(7-(6-(5-(4-1*2)))))*1", 9 - (8 - (7 - (6 - (5 - (4 - 2))))));
    }
}
