/** The edges that the document names in promises 1 to 7 and in what it says of the tape and of texts. */
public final class EdgesDayLawTest {

    private static final int NONE = -1, BAD = -2, STATE = -3, FULL = -4;
    private static final int LEAST = Integer.MIN_VALUE, MOST = Integer.MAX_VALUE;
    private static final long NO = -4611686018427387904L;
    private static final String TAIL = ";likes 1;waits 1;";
    // 2147483647, of numbers of four digits.
    private static final String MOST_INT = "(4634*10*4634*10+9999*8+8055)";

    public static void main(String[] args) {
        aNewObjectIsEmpty();
        aNewObjectHasTheFirstLaw();
        countRefuses();
        countsAtTheirEdges();
        theDayAtItsEdges();
        feedRefusesN();
        feedRefusesBytes();
        feedTakesBytes0And255();
        feedsFillTheTape();
        feedThatHasNotAllRoomFeedsNone();
        feedRefusesInOrder();
        anEmptyTape();
        aTextThatEndsTooEarly();
        aTapeOf160Bytes();
        theTapeIsEmptyBehindAText();
        textsAreFull();
        aFaultIsNoText();
        bytesThatBeginNone();
        wordsAsLongAsCanBe();
        wordsWhereOthersAreDue();
        numbersAsLongAsCanBe();
        theFirstTokenThatCanNotStand();
        fiveAreOpen();
        whatIsNoLongerOpen();
        forceAtItsEdges();
        asksRefuses();
        asksTakes();
        boundsOfWhatATextSays();
        whatIsNot0IsTrue();
        trueIs1FalseIs0();
        intsWrap();
        Due.end("EdgesDayLawTest");
    }

    // ---- promise 1

    /** "No GOODS, no EATERS"; sheets are missing "as all are at first"; no image. */
    private static void aNewObjectIsEmpty() {
        new Twin("P1 a new object", Table::bare)
            .is("no eaters, goods, day 0, the law 0, an empty tape", 0, x -> x.count(0), x -> x.count(1),
                x -> x.count(2), x -> x.count(4), x -> x.count(5))
            .is("one text", 1, x -> x.count(3))
            .is("nobody, nothing to ask for", BAD, x -> x.asks(0, 0, 0, 0), x -> x.force(1))
            .is("no such eater, good", -5, x -> x.put(0, 0, 0), x -> x.part(0, 0), x -> x.told(0, 0),
                x -> x.lend(0, 0, 1), x -> x.shape(0, 0), x -> x.mark(0, 0, 6, 0), x -> x.bite(0, 0, 6),
                x -> x.best(0, 0), x -> x.fewest(0, 0), x -> x.soonest(0, 0), x -> x.hire(0, 0),
                x -> x.whose(0, 1), x -> x.drawn(0, 0, 0, 0))
            .is("no such eater", -6, x -> x.kinds(0, 0, 1, 0))
            .is("no such eaters", -1000005, x -> x.duel(0, 1, 1, 0))
            .is("no order", NONE, x -> x.orderly(0))
            .is("no gains", 0, x -> x.orderly(1))
            .is("none such", NO, x -> x.odds(0, 101, 0, 0, 0))
            .is("no image", STATE, x -> x.back())
            .is("sheets are missing", -11, x -> x.judge(0), x -> x.judge(1), x -> x.judge(2), x -> x.judge(3),
                x -> x.ends(0, 0, 0), x -> x.laws(0), x -> x.cell(0, 0, 0), x -> x.copy(0, 0, 0, 0, 0),
                x -> x.eatersBy(0, 0, 0, 0))
            .is("nothing lies there", -11, x -> x.taken(0, 0), x -> x.taken(4, 0), x -> x.taken(5, 6),
                x -> x.taken(10, 6))
            .areAlike();
    }

    /** "TEXT 0, at first, and THE LAW: pays cells * 2 ; likes worth ; waits 0 ;". */
    private static void aNewObjectHasTheFirstLaw() {
        BiteFirst x = Table.pair(9, 1, 9, 9);
        x.set(99);
        Due.is("P1 pays cells * 2", x.asks(0, 0, 0, 799), 14);
        Due.is("P1 likes worth", x.asks(1, 0, 0, 735), 35);
        Due.is("P1 waits 0", x.asks(2, 0, 0, 1099), 0);
    }

    // ---- promise 2

    private static void countRefuses() {
        new Twin("P2 count", Table::laid)
            .is("BAD", BAD, x -> x.count(-1), x -> x.count(6), x -> x.count(LEAST), x -> x.count(MOST))
            .is("the first is only asked for", 3, x -> x.count(0))
            .is("the last is only asked for", 6, x -> x.count(5))
            .areAlike();
    }

    private static void countsAtTheirEdges() {
        BiteFirst x = Table.full();
        x.set(99);
        int[] most = {5, 6, 99, 6, 5, 160};
        BiteFirst y = Table.bare();
        int[] least = {0, 0, 0, 1, 0, 0};
        for (int what = 0; what < 6; what++) {
            Due.is("P2 count, the most: " + what, x.count(what), most[what]);
            Due.is("P2 count, the least: " + what, y.count(what), least[what]);
        }
    }

    // ---- promise 3

    /** "THE DAY (0 .. 99; 0 at first)"; "-7: v". */
    private static void theDayAtItsEdges() {
        new Twin("P3 set", Table::laid)
            .is("-7: v", -7, x -> x.set(-1), x -> x.set(100), x -> x.set(LEAST), x -> x.set(MOST))
            .areAlike();
        BiteFirst x = Table.bare();
        Due.is("P3 set: 0 at first", x.set(99), 0);
        Due.is("P3 set: 99 is taken", x.count(2), 99);
        Due.is("P3 set: what it was", x.set(0), 99);
        Due.is("P3 set: 0 is taken", x.count(2), 0);
        Due.is("P3 set: what it was", x.set(1), 0);
    }

    // ---- promise 4

    /** "The first n (1 .. 5)". */
    private static void feedRefusesN() {
        new Twin("P4 feed", Table::laid)
            .is("BAD: n", BAD, x -> x.feed(0, 'a', 'a', 'a', 'a', 'a'), x -> x.feed(6, 'a', 'a', 'a', 'a', 'a'),
                x -> x.feed(-1, 'a', 'a', 'a', 'a', 'a'), x -> x.feed(LEAST, 'a', 'a', 'a', 'a', 'a'),
                x -> x.feed(MOST, 'a', 'a', 'a', 'a', 'a'))
            .areAlike();
        BiteFirst x = Table.bare();
        Due.is("P4 feed: n 1 is taken", x.feed(1, 'a', 'a', 'a', 'a', 'a'), 1);
        Due.is("P4 feed: n 5 is taken", x.feed(5, 'a', 'a', 'a', 'a', 'a'), 6);
    }

    /** "BAD: .. any of the five", be it among the first n or not. */
    private static void feedRefusesBytes() {
        for (int n = 1; n <= 5; n++) {
            int first = n;
            Twin twin = new Twin("P4 feed of " + n, Table::laid);
            for (int bad : new int[] {-1, 256, LEAST, MOST}) {
                twin.is("BAD: byte " + bad, BAD, x -> x.feed(first, bad, 'b', 'c', 'd', 'e'),
                    x -> x.feed(first, 'a', bad, 'c', 'd', 'e'), x -> x.feed(first, 'a', 'b', bad, 'd', 'e'),
                    x -> x.feed(first, 'a', 'b', 'c', bad, 'e'), x -> x.feed(first, 'a', 'b', 'c', 'd', bad));
            }
            twin.areAlike();
        }
    }

    private static void feedTakesBytes0And255() {
        BiteFirst x = Table.bare();
        Due.is("P4 feed: 0 is taken", x.feed(5, 0, 0, 0, 0, 0), 5);
        Due.is("P4 feed: 255 is taken", x.feed(5, 255, 255, 255, 255, 255), 10);
    }

    /** "THE TAPE (160 bytes at most)"; "FULL: they have not all room". */
    private static void feedsFillTheTape() {
        for (int n = 1; n <= 5; n++) {
            BiteFirst x = Table.bare();
            Due.feed(x, " ".repeat(160 - n));
            Due.is("P4 feed: the last " + n, x.feed(n, ' ', ' ', ' ', ' ', ' '), 160);
            Due.is("P4 feed: FULL", x.feed(1, ' ', ' ', ' ', ' ', ' '), FULL);
            Due.is("P4 feed: 160 at most", x.count(5), 160);
            BiteFirst y = Table.bare();
            Due.feed(y, " ".repeat(161 - n));
            Due.is("P4 feed: one too many of " + n, y.feed(n, ' ', ' ', ' ', ' ', ' '), FULL);
            Due.is("P4 feed: none comes of " + n, y.count(5), 161 - n);
        }
    }

    /** "(none comes)": what had no room isn't there, and what comes then stands behind what was there. */
    private static void feedThatHasNotAllRoomFeedsNone() {
        BiteFirst x = Table.bare();
        Due.feed(x, "pays 7;likes 8;waits 9" + " ".repeat(136));
        Due.is("P4 feed: 158 bytes", x.count(5), 158);
        Due.is("P4 feed: no room for three", x.feed(3, ';', ';', ';', ';', ';'), FULL);
        Due.is("P4 feed: room for two", x.feed(2, ' ', ';', '$', '$', '$'), 160);
        Due.is("P4 feed: just these came", x.text(), 1);
    }

    /** "BAD: n, any of the five; FULL": BAD ahead of FULL. */
    private static void feedRefusesInOrder() {
        new Twin("P4 feed, full", Table::full)
            .is("BAD n ahead of FULL", BAD, x -> x.feed(0, 0, 0, 0, 0, 0), x -> x.feed(6, 0, 0, 0, 0, 0))
            .is("BAD bytes ahead of FULL", BAD, x -> x.feed(1, 256, 0, 0, 0, 0), x -> x.feed(1, 0, 256, 0, 0, 0),
                x -> x.feed(1, 0, 0, 256, 0, 0), x -> x.feed(1, 0, 0, 0, 256, 0), x -> x.feed(1, 0, 0, 0, 0, 256),
                x -> x.feed(5, -1, 0, 0, 0, 0), x -> x.feed(5, 0, 0, 0, 0, -1))
            .is("FULL alone", FULL, x -> x.feed(1, 0, 0, 0, 0, 0), x -> x.feed(5, 255, 255, 255, 255, 255))
            .areAlike();
    }

    // ---- promise 5

    /** The fault of a text is where its head ends. */
    private static void fault(String sentence, String head, String rest) {
        BiteFirst x = Table.bare();
        Due.is("P5 " + sentence + ": " + head + "|" + rest, Due.text(x, head + rest), -100 - head.length());
    }

    private static void stands(String sentence, String all) {
        Due.is("P5 " + sentence + ": " + all, Due.text(Table.bare(), all), 1);
    }

    /** "(the text's size, if it ends too early)": 0, of an empty tape. */
    private static void anEmptyTape() {
        Due.is("P5 an empty tape", Table.bare().text(), -100);
        fault("blanks alone", " ", "");
        fault("blanks alone", "\n", "");
        fault("blanks alone", " \n \n ", "");
    }

    /** "(the text's size, if it ends too early)": behind each token of a text but the last. */
    private static void aTextThatEndsTooEarly() {
        String[] tokens = {"pays", " not", " not", " (", "cells", "<", "-", "2", ")", "and", " 1", "=", "1", "or", " 2", "*",
            "3", "+", "4", "-", "5", ";", "likes", " worth", ";", "waits", " 0"};
        StringBuilder head = new StringBuilder();
        for (String token : tokens) {
            head.append(token);
            fault("ends too early", head.toString(), "");
            fault("ends too early, blanks behind", head + " \n", "");
        }
        stands("ends in time", head + ";");
        fault("within a word", "", "pay");
        fault("within a name", "pays ", "cell");
    }

    /** "(160 bytes at most)": a text of all of them. */
    private static void aTapeOf160Bytes() {
        String blanks = " ".repeat(138);
        fault("160 blanks", " ".repeat(160), "");
        stands("the last byte of 160", "pays 1;likes 1;waits 1" + blanks.substring(1) + ";");
        stands("blanks up to 160", "pays 1;likes 1;waits 1;" + blanks.substring(1));
        fault("ends too early by one byte", "pays 1;likes 1;waits 1" + blanks, "");
        fault("its last byte can't stand", "pays 1;likes 1;waits 1;" + blanks.substring(2), ";");
        fault("its last byte begins none", "pays 1;likes 1;waits 1;" + blanks.substring(2), "$");
        fault("its last byte is half a word", "pays 1;likes 1;waits 1 " + blanks.substring(2), "x");
        // A word, a number of 160 bytes are read to their ends, and not beyond.
        fault("a word of 160 bytes", "", "a".repeat(160));
        fault("a number of 160 bytes", "", "1".repeat(160));
        fault("a number of 155 bytes", "pays ", "1".repeat(155));
    }

    /** "THE TAPE, which is empty then (by a FAULT, too)": the next text is of what is fed then alone. */
    private static void theTapeIsEmptyBehindAText() {
        BiteFirst x = Table.bare();
        Due.text(x, "pays 1;likes 1;waits 1;");
        Due.is("P5 empty behind a text", x.count(5), 0);
        Due.is("P5 empty behind a text", x.text(), -100);
        Due.is("P5 empty behind a fault", x.count(5), 0);
        Due.is("P5 a fault", Due.text(x, "pays 1;likes"), -112);
        Due.is("P5 empty behind a fault", x.count(5), 0);
        Due.is("P5 anew behind a fault", Due.text(x, "pays 1;likes 1;waits 1;"), 2);
        Due.is("P5 room for 160 again", Due.feed(x, " ".repeat(160)), 160);
    }

    /** "TEXTS are numbered from 0 on, 6 at most"; "FULL (ahead of the FAULT; then THE TAPE stays)". */
    private static void textsAreFull() {
        String one = "pays 1;likes 1;waits 1;";
        for (String tape : new String[] {"", "$", one, "pays 1"}) {
            BiteFirst x = Table.bare();
            for (int t = 1; t < 6; t++) {
                Due.is("P5 text " + t, Due.text(x, one), t);
            }
            Due.is("P5 FULL: " + tape, Due.text(x, tape), FULL);
            Due.is("P5 FULL once more: " + tape, x.text(), FULL);
            Due.is("P5 FULL, the tape stays: " + tape, x.count(5), tape.length());
            Due.is("P5 FULL, no seventh: " + tape, x.count(3), 6);
            Due.is("P5 FULL, the fifth is there: " + tape, x.force(5), 0);
            Due.is("P5 FULL, no sixth: " + tape, x.force(6), BAD);
            Due.is("P5 FULL, more may come on the tape: " + tape, x.feed(1, 'x', 0, 0, 0, 0), tape.length() + 1);
        }
        new Twin("P5 text, full", Table::full).is("FULL", FULL, x -> x.text()).areAlike();
    }

    /** A fault makes no text, and the law stays; the next text has the number that it would have had. */
    private static void aFaultIsNoText() {
        BiteFirst x = Table.bare();
        for (int k = 0; k < 7; k++) {
            Due.is("P5 a fault", Due.text(x, "pays 1;likes 1;waits 1"), -122);
            Due.is("P5 a fault is no text", x.count(3), 1);
            Due.is("P5 a fault is no text", x.force(1), BAD);
        }
        Due.is("P5 behind faults", Due.text(x, "pays 1;likes 1;waits 1;"), 1);
        Due.is("P5 a text is no law by itself", x.count(4), 0);
        Due.is("P5 a fault of the second", Due.text(x, "pays 7;likes 1;waits"), -120);
        x.force(1);
        x.eater(0, 1);
        x.good(0, 1);
        Due.is("P5 the first is as it was", x.asks(0, 0, 0, 0), 1);
    }

    /** "also of a byte that begins none": of all 256, none but the told ones begin a token or are blanks. */
    private static void bytesThatBeginNone() {
        for (int b = 0; b < 256; b++) {
            char c = (char) b;
            String all = "pays 1 " + c + TAIL;
            if (b == 32 || b == 10) {
                stands("blank " + b, all);
            } else if (";+-*<=".indexOf(c) >= 0) {
                fault("behind the sign " + b, "pays 1 " + c, TAIL);
            } else {
                fault("byte " + b, "pays 1 ", c + TAIL);
            }
            // A letter, a digit at the end of one of their kind belongs to it; all else ends it.
            boolean letter = c >= 'a' && c <= 'z';
            boolean digit = c >= '0' && c <= '9';
            boolean joins = b == 32 || b == 10 || "+-*<=;".indexOf(c) >= 0;
            String word = "pays " + (letter ? "" : "day");
            fault("behind a word, byte " + b, joins ? word + c : word, (letter ? "day" : "") + (joins ? "" : c));
            String number = "pays 1234";
            if (digit) {
                fault("behind a number, byte " + b, "pays ", "1234" + c);
            } else {
                fault("behind a number, byte " + b, joins ? number + c : number, joins ? "" : "" + c);
            }
        }
    }

    /** "WORDS (as many letters a .. z as stand there)". */
    private static void wordsAsLongAsCanBe() {
        fault("one word", "", "payscells" + TAIL);
        fault("one word", "pays ", "cellsor 1" + TAIL);
        fault("one word", "pays 1", "orcells" + TAIL);
        fault("one word", "pays ", "notcells" + TAIL);
        stands("a number ends a word", "pays1;likes1;waits1;");
        stands("a word ends a number", "pays 1or 1and 1;likes 1;waits 1;");
        stands("a sign ends a word", "pays(cells)*soft+more-left<day;likes 1;waits 1;");
        stands("a blank 10 ends a word", "pays\nnot\ncells\n;likes\n1;waits\n1;");
        fault("capitals begin none", "", "PAYS 1" + TAIL);
        fault("capitals begin none", "pays ", "Cells" + TAIL);
        fault("a capital ends a word", "", "payS 1" + TAIL);
        for (String word : new String[] {"cells", "worth", "soft", "more", "left", "day"}) {
            stands("a name", "pays " + word + ";likes " + word + ";waits " + word + ";");
            fault("a name cut", "pays ", word.substring(0, word.length() - 1) + TAIL);
            fault("a name and a letter", "pays ", word + "s" + TAIL);
            fault("no key", "", word + " 1" + TAIL);
            fault("no key", "pays 1 ", word + TAIL);
        }
    }

    /** "TEXT: pays E ; likes E ; waits E ;": each KEY, each NAME where another one is due, and behind the last. */
    private static void wordsWhereOthersAreDue() {
        String names = "cells worth soft more left day";
        String operators = "or and not";
        for (String word : ("pays likes waits " + operators + " " + names).split(" ")) {
            String[] keys = {"pays", "likes", "waits"};
            for (int part = 0; part < 3; part++) {
                String ahead = part == 0 ? "" : part == 1 ? "pays 1;" : "pays 1;likes 1;";
                if (!word.equals(keys[part])) {
                    fault("another KEY is due", ahead, word + " 1;likes 1;waits 1;");
                }
                if (!names.contains(word) && !word.equals("not")) {
                    fault("no NAME", ahead + keys[part] + " ", word + " 1;waits 1;");
                    fault("no NAME", ahead + keys[part] + " 1 + ", word + " 1;waits 1;");
                }
                if (!"or and".contains(word)) {
                    fault("nothing between", ahead + keys[part] + " 1 ", word + " 1;waits 1;");
                }
            }
            fault("nothing behind the last", "pays 1;likes 1;waits 1;", word);
        }
        for (String behind : new String[] {"1", "9999", "(", ")", ";", "+", "-", "*", "<", "=", "x", "$"}) {
            fault("nothing behind the last", "pays 1;likes 1;waits 1; ", behind);
        }
        for (String word : new String[] {"bells", "forth", "loft", "bore", "heft", "say"}) {
            fault("no NAME by its first letter", "pays ", word + TAIL);
        }
        fault("no KEY by its first letter", "", "says 1" + TAIL);
        fault("no KEY by its first letter", "pays 1;", "hikes 1;waits 1;");
        fault("no KEY by its first letter", "pays 1;likes 1;", "baits 1;");
    }

    /** "NUMBERS (as many digits as stand there; more than 4 are too long)". */
    private static void numbersAsLongAsCanBe() {
        for (String number : new String[] {"0", "9", "10", "99", "100", "999", "1000", "9999", "0000", "0001"}) {
            stands("a number", "pays " + number + TAIL);
        }
        for (String number : new String[] {"10000", "00000", "00001", "99999", "123456789", "99999999999"}) {
            fault("too long", "pays ", number + TAIL);
            fault("too long, where none can stand", "pays 1 ", number + TAIL);
            fault("too long, where none can stand", "", number + TAIL);
            fault("too long, behind the last", "pays 1;likes 1;waits 1;", number);
        }
        BiteFirst x = Table.pair(0, 1, 0, 1);
        Due.law(x, "0999", "0099", "0007");
        Due.is("P5 0 ahead of a number", x.asks(0, 0, 0, 0), 999);
        Due.is("P5 0 ahead of a number", x.asks(1, 0, 0, 0), 99);
        Due.is("P5 0 ahead of a number", x.asks(2, 0, 0, 0), 7);
    }

    /** "the place of the first byte of the first TOKEN that can't stand there". */
    private static void theFirstTokenThatCanNotStand() {
        fault("the first of two", "pays 1 ", "2 $");
        fault("the first of two", "pays ", "$ 12345");
        fault("the first of two", "pays 1;", "waits 1 $");
        fault("its first byte", "pays 1 ", "likes 1;waits 1;");
        fault("its first byte", " \n ", "likes 1;waits 1;");
        fault("keys in their order", "", "likes 1;waits 1;pays 1;");
        fault("keys in their order", "pays 1;", "waits 1;likes 1;");
        fault("keys in their order", "pays 1;likes 1;", "likes 1;");
        fault("nothing behind the last", "pays 1;likes 1;waits 1; ", "pays 1;likes 1;waits 1;");
        fault("nothing behind the last", "pays 1;likes 1;waits 1;", ";");
        fault("no key twice", "pays ", "pays 1" + TAIL);
        fault("no E", "pays ", TAIL);
        fault("no E", "pays (", ")" + TAIL);
        fault("no ;", "pays 1 ", "likes 1;waits 1;");
        fault("< once", "pays 1 < 2 ", "< 3" + TAIL);
        fault("= once", "pays 1 = 2 ", "= 3" + TAIL);
        fault("< or = once", "pays 1 < 2 ", "= 3" + TAIL);
        fault("= or < once", "pays not 1 = 2 ", "< 3" + TAIL);
        stands("< in each NOT", "pays 1 < 2 and 2 < 3 or 3 = 4 and not 4 = 5" + TAIL);
        stands("< in brackets", "pays (1 < 2) < (2 = 3)" + TAIL);
        fault("no not in a SUM", "pays 1 < ", "not 2" + TAIL);
        fault("no not in a SUM", "pays 1 + ", "not 2" + TAIL);
        fault("no not in a TERM", "pays 2 * ", "not 2" + TAIL);
        fault("no not behind -", "pays - ", "not 2" + TAIL);
        stands("not in brackets", "pays 1 + (not 2) * -(not 3)" + TAIL);
        fault("no ) without a (", "pays 1", ")" + TAIL);
        fault("no ) without a (", "pays (1)", ")" + TAIL);
        fault("no ( behind a ONE", "pays 1 ", "(1)" + TAIL);
        fault("no ; in brackets", "pays (1", TAIL);
        fault("no key in brackets", "pays (", "pays 1)" + TAIL);
        fault("no + ahead of a ONE", "pays ", "+1" + TAIL);
        fault("no + ahead of a ONE", "pays 1 - ", "+1" + TAIL);
        fault("no * twice", "pays 1 * ", "* 1" + TAIL);
    }

    /** "a ( , a not, a - ahead of a ONE while 5 of these are open". */
    private static void fiveAreOpen() {
        String[] opens = {"(", "not ", "-"};
        // All mixtures of five; a not can't stand behind a -.
        for (int mix = 0; mix < 243; mix++) {
            StringBuilder head = new StringBuilder();
            StringBuilder close = new StringBuilder();
            boolean stands = true;
            boolean minus = false;
            for (int k = 0, rest = mix; k < 5; k++, rest /= 3) {
                stands &= !(minus && rest % 3 == 1);
                minus = rest % 3 == 2;
                head.append(opens[rest % 3]);
                close.append(rest % 3 == 0 ? ")" : "");
            }
            if (!stands) {
                continue;
            }
            stands("five are open", "pays " + head + "1" + close + TAIL);
            fault("a sixth (", "pays " + head, "(1)" + close + TAIL);
            fault("a sixth -", "pays " + head, "-1" + close + TAIL);
            fault("a sixth not", "pays " + head, "not 1" + close + TAIL);
            fault("a sixth - in a TERM", "pays " + head + "1" + (minus ? "" : "*"), minus ? "$" : "-1" + close + TAIL);
        }
        fault("in likes, too", "pays 1;likes (((((", "(1)))))); waits 1;");
        fault("in waits, too", "pays 1;likes 1;waits -----", "-1;");
        fault("a - between two is none of these", "pays (((((1-", "-1)))))" + TAIL);
        stands("a - between two is none of these", "pays (((((1-1-1)))))" + TAIL);
    }

    /** "(a ( till its ), not and - till what they belong to ends)". */
    private static void whatIsNoLongerOpen() {
        stands("behind its )", "pays (((((1)))))*(((((1)))))-(((((1)))))" + TAIL);
        stands("behind one )", "pays (((((1))*((1)))))" + TAIL);
        fault("behind one )", "pays (((((1))*((", "(1))))))" + TAIL);
        stands("a - till its ONE ends", "pays -----1*-----1+-----1" + TAIL);
        stands("a - till its ) ends", "pays -(1)*-----1" + TAIL);
        stands("a not till its NOT ends", "pays not not not not not 1 and not not not not not 1" + TAIL);
        stands("a not till its NOT ends", "pays not not not not not 1 or (((((1)))))" + TAIL);
        fault("a not till its SUMs end", "pays not not not not not 1 < ", "(1)" + TAIL);
        fault("a not till its SUMs end", "pays not not not not not 1 + 1 = 1 + 1 * ", "-1" + TAIL);
        stands("a not till its SUMs end", "pays not not not not 1 < (1) and (((((1)))))" + TAIL);
        stands("a not in brackets till they end", "pays (not not not not 1)+(((((1)))))" + TAIL);
        stands("none is open behind ;", "pays (((((1)))));likes (((((1)))));waits (((((1)))));");
        stands("none is open behind ;", "pays not not not not not 1;likes -----1;waits not not not not not 1;");
        BiteFirst x = Table.bare();
        Due.text(x, "pays (((((");
        Due.is("P5 none is open in the next text", Due.text(x, "pays (((((1)))))" + TAIL), 1);
    }

    // ---- promise 6

    private static void forceAtItsEdges() {
        new Twin("P6 force", Table::laid)
            .is("BAD", BAD, x -> x.force(-1), x -> x.force(2), x -> x.force(5), x -> x.force(6), x -> x.force(LEAST),
                x -> x.force(MOST))
            .areAlike();
        new Twin("P6 force, full", Table::full)
            .is("BAD", BAD, x -> x.force(-1), x -> x.force(6))
            .areAlike();
        BiteFirst x = Table.full();
        Due.is("P6 force: the first is taken", x.force(0), 5);
        Due.is("P6 force: the last is taken", x.force(5), 0);
        Due.is("P6 force: which was", x.force(5), 5);
        Due.is("P6 force: THE LAW", x.count(4), 5);
    }

    // ---- promise 7

    private static void asksRefuses() {
        new Twin("P7 asks", Table::laid)
            .is("BAD: part", BAD, x -> x.asks(-1, 0, 0, 0), x -> x.asks(3, 0, 0, 0), x -> x.asks(LEAST, 0, 0, 0),
                x -> x.asks(MOST, 0, 0, 0))
            .is("BAD: EATER", BAD, x -> x.asks(0, -1, 0, 0), x -> x.asks(0, 3, 0, 0), x -> x.asks(0, LEAST, 0, 0),
                x -> x.asks(0, MOST, 0, 0))
            .is("BAD: GOOD", BAD, x -> x.asks(0, 0, -1, 0), x -> x.asks(0, 0, 3, 0), x -> x.asks(0, 0, LEAST, 0),
                x -> x.asks(0, 0, MOST, 0))
            .is("BAD: cells 0 .. 10, worth 0 .. 99", BAD, x -> x.asks(0, 0, 0, -1), x -> x.asks(0, 0, 0, 1100),
                x -> x.asks(0, 0, 0, -100), x -> x.asks(0, 0, 0, LEAST), x -> x.asks(0, 0, 0, MOST))
            .is("pays is only asked for", 4, x -> x.asks(0, 0, 0, 305))
            .is("likes is only asked for", 5, x -> x.asks(1, 2, 2, 305))
            .is("waits is only asked for", 1, x -> x.asks(2, 2, 2, 305))
            .areAlike();
    }

    private static void asksTakes() {
        BiteFirst x = Table.full();
        Due.is("P7 asks: the last eater, the last good, 0", x.asks(0, 4, 5, 0), 5);
        BiteFirst y = Table.pair(0, 1, 0, 1);
        Due.law(y, "cells", "worth", "cells * 100 + worth");
        int[][] edges = {{0, 0, 0, 0}, {99, 0, 99, 99}, {100, 1, 0, 100}, {999, 9, 99, 999}, {1000, 10, 0, 999},
            {1099, 10, 99, 999}};
        for (int[] edge : edges) {
            for (int part = 0; part < 3; part++) {
                Due.is("P7 asks: part " + part + " by " + edge[0], y.asks(part, 0, 0, edge[0]), edge[1 + part]);
            }
        }
        y.put(0, 11, 0);
        y.put(0, 10, 9);
        y.set(99);
        Due.law(y, "left", "soft", "day");
        Due.is("P7 asks: nothing left", y.asks(0, 0, 0, 1000), 0);
        Due.is("P7 asks: soft 9", y.asks(1, 0, 0, 1000), 9);
        Due.is("P7 asks: day 99", y.asks(2, 0, 0, 1000), 99);
    }

    /** What each part says of an E. */
    private static void says(String sentence, String e, int pays, int likes, int waits) {
        BiteFirst x = Table.pair(0, 1, 0, 1);
        Due.law(x, e, "1", "1");
        Due.is("P7 " + sentence + ", pays " + e, x.asks(0, 0, 0, 0), pays);
        Due.law(x, "1", e, "1");
        Due.is("P7 " + sentence + ", likes " + e, x.asks(1, 0, 0, 0), likes);
        Due.law(x, "1", "1", e);
        Due.is("P7 " + sentence + ", waits " + e, x.asks(2, 0, 0, 0), waits);
    }

    /** "(pays, waits 0 .. 999, likes 0 .. 99, else the bound)". */
    private static void boundsOfWhatATextSays() {
        says("below 0", "-1", 0, 0, 0);
        says("0", "0", 0, 0, 0);
        says("1", "1", 1, 1, 1);
        says("98", "98", 98, 98, 98);
        says("99", "99", 99, 99, 99);
        says("100", "100", 100, 99, 100);
        says("998", "998", 998, 99, 998);
        says("999", "999", 999, 99, 999);
        says("1000", "1000", 999, 99, 999);
        says("9999", "9999", 999, 99, 999);
        says("the most", MOST_INT, 999, 99, 999);
        says("the least", "-" + MOST_INT + "-1", 0, 0, 0);
    }

    /** "of or, and, not, <, = 1 or 0 (what is not 0 is true)". */
    private static void whatIsNot0IsTrue() {
        for (String v : new String[] {"1", "-1", "2", "256", "(4096*16)", "(4096*4096*128)", "-" + MOST_INT}) {
            says("true", "not " + v, 0, 0, 0);
            says("true", "not not " + v, 1, 1, 1);
            says("true", v + " and 1", 1, 1, 1);
            says("true", "1 and " + v, 1, 1, 1);
            says("true", v + " or 0", 1, 1, 1);
            says("true", "0 or " + v, 1, 1, 1);
        }
        says("0 isn't true", "not 0", 1, 1, 1);
        says("0 isn't true", "0 or 0", 0, 0, 0);
        says("0 isn't true", "1 and 0", 0, 0, 0);
        says("0 isn't true", "0 and 1", 0, 0, 0);
        says("bits of both", "1 and 2", 1, 1, 1);
        says("bits of both", "2 or 4", 1, 1, 1);
        says("not below", "2 < 2", 0, 0, 0);
        says("below by 1", "1 < 2", 1, 1, 1);
        says("above by 1", "3 < 2", 0, 0, 0);
        says("alike", "2 = 2", 1, 1, 1);
        says("unlike by 1", "2 = 3", 0, 0, 0);
        says("unlike by 1", "2 = 1", 0, 0, 0);
    }

    /** "of or, and, not, <, = 1 or 0", not just what the bounds make 0: 5 and that much are reckoned. */
    private static void trueIs1FalseIs0() {
        for (String e : new String[] {"1 or 1", "2 or 0", "0 or 2", "2 and 4", "not 0", "1 < 2", "-2 < -1", "2 = 2", "-2 = -2"}) {
            says("true is 1", "5+(" + e + ")", 6, 6, 6);
            says("true is 1", "5-(" + e + ")", 4, 4, 4);
        }
        for (String e : new String[] {"0 or 0", "1 and 0", "0 and 1", "0 and 0", "not 1", "not -1", "2 < 2", "3 < 2",
                "-1 < -2", "2 = 1", "1 = 2", "2 = -2"}) {
            says("false is 0", "5+(" + e + ")", 5, 5, 5);
            says("false is 0", "5-(" + e + ")", 5, 5, 5);
        }
    }

    /** "An E is an int (32 bits, wrapping)". */
    private static void intsWrap() {
        String most = MOST_INT;
        String least = "(-" + most + "-1)";
        says("+ wraps", most + "+1 < 0", 1, 1, 1);
        says("+ wraps", most + "+1 = " + least, 1, 1, 1);
        says("- wraps", "0 < " + least + "-1", 1, 1, 1);
        says("- wraps", least + "-1 = " + most, 1, 1, 1);
        says("- ahead of a ONE wraps", "-" + least + " = " + least, 1, 1, 1);
        says("* wraps to 0", "4096*16*4096*16 + 5", 5, 5, 5);
        says("* wraps", most + "*2 = -2", 1, 1, 1);
        says("* wraps", most + "*" + most + " + 6", 7, 7, 7);
        says("* wraps below 0", "4096*4096*128 < 0", 1, 1, 1);
        says("< of the least and the most", least + " < " + most, 1, 1, 1);
        says("< of the most and the least", most + " < " + least, 0, 0, 0);
        says("< of the least and 1", least + " < 1", 1, 1, 1);
        says("< of the most and -1", most + " < -1", 0, 0, 0);
        says("= of the most and -1", most + " = -1", 0, 0, 0);
        says("what wraps to 0 isn't true", "not (4096*16*4096*16)", 1, 1, 1);
        says("wrapped ahead of the bound", "4096*4096*256 + 77", 77, 77, 77);
        says("wrapped above the bound", "4096*4096*256 + 1000", 999, 99, 999);
    }
}
