/** Chapter 1 of the terms and promises 2 to 4, at their boundaries: each sentence about the text with a row of its own. */
final class EdgeTextTest {
    private static final int NONE = SleptBread.NONE;
    private static final Check CHECK = new Check("EdgeTextTest");
    private static final int MOST_LETTERS = 240;

    public static void main(String[] args) {
        fullText();
        refusedLetters();
        dreams();
        gains();
        weights();
        howManyWeights();
        allZero();
        sleepers();
        eaters();
        wantedDreams();
        values();
        nightmares();
        figures();
        wrappedNumbers();
        blanks();
        noBlanks();
        words();
        firstFault();
        leastFault();
        theEnd();
        emptyText();
        textIsGone();
        faultOfTheLatest();
        numbersAsTheyCome();
        allIsNew();
        allIsAsItWas();
        CHECK.finish();
    }

    private static SleptBread text(String text, int answer, int place) {
        SleptBread b = new SleptBread();
        Check.feed(b, text);
        CHECK.due("street of '" + text + "'", b.street(), answer);
        CHECK.due("fault of '" + text + "'", b.fault(), place);
        return b;
    }

    private static SleptBread good(String text, int sleepers) {
        return text(text, sleepers, NONE);
    }

    private static String rows(String row, int times) {
        return row.repeat(times);
    }

    private static String ofLength(String head, String tail) {
        return head + " ".repeat(MOST_LETTERS - head.length() - tail.length()) + tail;
    }

    /** 'a text (240 letters at most)': the last letter counts as any other. */
    private static void fullText() {
        SleptBread b = good(ofLength("d2 0;s1,2;", "l0 1 99;"), 1);
        CHECK.due("the loaf at the end of a full text", b.loaf(0, 2), 99);
        good(ofLength("d2 0;", "n1;"), 0);
        text(ofLength("d2 0;", "n1"), -11, MOST_LETTERS);
        text(ofLength("d2 0;", "n"), -11, MOST_LETTERS);
        text(ofLength("d2 0;", "n2"), -12, MOST_LETTERS - 1);
        text(ofLength("d2 0;", "x"), -11, MOST_LETTERS - 1);
        text(ofLength("d2 0;", "d"), -13, MOST_LETTERS - 1);
        text(ofLength("d2 0;", "s0,0"), -14, MOST_LETTERS - 1);
        text("d" + "2".repeat(MOST_LETTERS - 1), -12, 1);
        text(";".repeat(MOST_LETTERS), -11, 0);
        good(" ".repeat(MOST_LETTERS), 0);
        text(" ".repeat(MOST_LETTERS - 1) + "d", -11, MOST_LETTERS);
    }

    /** 'OUTSIDE, FULL (240)': what is refused does not stand in the text. */
    private static void refusedLetters() {
        SleptBread b = new SleptBread();
        Check.feed(b, ofLength("d2 0;s1,2;", ";").substring(0, MOST_LETTERS - 1));
        CHECK.due("239 letters", b.told(5), 239);
        CHECK.due("letter 240", b.feed(' '), 240);
        CHECK.due("letter 241", b.feed('x'), SleptBread.FULL);
        CHECK.due("letter 241 again", b.feed(' '), SleptBread.FULL);
        CHECK.due("street without them", b.street(), 1);
        CHECK.due("room again", b.feed('d'), 1);
        SleptBread c = new SleptBread();
        int[] letters = {'d', -1, '2', 256, ' ', 'd' + 256, '0', -100, ';', Integer.MAX_VALUE};
        for (int letter : letters) {
            c.feed(letter);
        }
        CHECK.due("letters that came", c.told(5), 5);
        CHECK.due("street of those that came", c.street(), 0);
        CHECK.due("dreams of those that came", c.told(0), 2);
        SleptBread d = new SleptBread();
        CHECK.due("letter 0", d.feed(0), 1);
        CHECK.due("letter 255", d.feed(255), 2);
        CHECK.due("letter -1", d.feed(-1), SleptBread.OUTSIDE);
        CHECK.due("letter 256", d.feed(256), SleptBread.OUTSIDE);
    }

    /** 'N 2 .. 5'. */
    private static void dreams() {
        for (int n = 0; n <= 12; n++) {
            if (n >= 2 && n <= 5) {
                CHECK.due("N " + n, good("d" + n + " 0;", 0).told(0), n);
            } else {
                text("d" + n + " 0;", -12, 1);
            }
        }
        text("d999 0;", -12, 1);
    }

    /** 'G, 0 .. 5'. */
    private static void gains() {
        for (int g = 0; g <= 12; g++) {
            if (g <= 5) {
                CHECK.due("G " + g, good("d2 " + g + ";", 0).told(1), g);
            } else {
                text("d2 " + g + ";", -12, 3);
            }
        }
        text("d2 999;", -12, 3);
    }

    /** 'W, 0 .. 9', at every place. */
    private static void weights() {
        for (int n = 2; n <= 5; n++) {
            for (int place = 0; place < n; place++) {
                String ahead = "d" + n + " 0;s" + rows("1,", place);
                String behind = rows(",1", n - 1 - place) + ";";
                CHECK.due("W 9", good(ahead + 9 + behind, 1).weight(0, place), 9);
                CHECK.due("W 0", good(ahead + 0 + behind, 1).weight(0, place), 0);
                text(ahead + 10 + behind, -12, ahead.length());
                text(ahead + 999 + behind, -12, ahead.length());
            }
        }
    }

    /** 'too few W: at what is there in place of ','; too many: at the ','. */
    private static void howManyWeights() {
        for (int n = 2; n <= 5; n++) {
            for (int many = 1; many <= 7; many++) {
                String ws = "d" + n + " 0;s1" + rows(",1", many - 1);
                if (many < n) {
                    text(ws + ";", -11, ws.length());
                    text(ws + " ;", -11, ws.length() + 1);
                    text(ws, -11, ws.length());
                    text(ws + "x", -11, ws.length());
                    text(ws + ",;", -11, ws.length() + 1);
                } else if (many == n) {
                    good(ws + ";", 1);
                    text(ws + ",;", -11, ws.length());
                    text(ws, -11, ws.length());
                } else {
                    text(ws + ";", -11, ws.length() - 2 * (many - n));
                }
            }
            text("d" + n + " 0;s;", -11, 6);
            text("d" + n + " 0;s,1;", -11, 6);
        }
    }

    /** 'not all 0', '4 W that are all 0 (at the last W)'. */
    private static void allZero() {
        for (int n = 2; n <= 5; n++) {
            String ws = "d" + n + " 0;s" + rows("0,", n - 1);
            text(ws + "0;", -14, ws.length());
            text(ws + "  00 ;", -14, ws.length() + 2);
            text(ws + "000;", -14, ws.length());
            good(ws + "1;", 1);
            good("d" + n + " 0;s1" + rows(",0", n - 1) + ";", 1);
            String ahead = "d" + n + " 0;s" + rows("9,", n - 1) + "9;s" + rows("0,", n - 1);
            text(ahead + "0;", -14, ahead.length());
        }
    }

    /** '6 SLEEPERS at most', 'a seventh 's' (at it)'; '7 LOAVES at most', 'an eighth 'l' (at it)'. */
    private static void sleepers() {
        for (int many = 0; many <= 8; many++) {
            String told = "d2 0;" + rows("s1,1;", many);
            if (many <= 6) {
                CHECK.due("sleepers", good(told, many).told(2), many);
            } else {
                text(told, -13, 5 + 30);
            }
        }
        for (int many = 0; many <= 9; many++) {
            String told = "d2 0;s1,1;" + rows("l0 1 9;", many);
            if (many <= 7) {
                CHECK.due("loaves", good(told, 1).told(3), many);
            } else {
                text(told, -13, 10 + 49);
            }
        }
    }

    /** 'SLEEPER E told ahead', 'a SLEEPER that was not told yet (at its first)'. */
    private static void eaters() {
        for (int many = 0; many <= 6; many++) {
            String told = "d2 0;" + rows("s1,1;", many);
            for (int e = 0; e <= 7; e++) {
                if (e < many) {
                    CHECK.due("eater", good(told + "l" + e + " 0 0;", many).loaf(0, 0), e);
                } else {
                    text(told + "l" + e + " 0 0;s1,1;", -12, told.length() + 1);
                }
            }
        }
        text("d2 0;s1,1;l  001 0 0;s1,1;", -12, 13);
    }

    /** 'a DREAM that there is not'. */
    private static void wantedDreams() {
        for (int n = 2; n <= 5; n++) {
            String told = "d" + n + " 0;s1" + rows(",1", n - 1) + ";l0 ";
            for (int d = 0; d <= 6; d++) {
                if (d < n) {
                    CHECK.due("wanted", good(told + d + " 0;", 1).loaf(0, 1), d);
                } else {
                    text(told + d + " 0;", -12, told.length());
                }
            }
        }
    }

    /** 'worth V, 0 .. 99'. */
    private static void values() {
        for (int v : new int[] {0, 1, 9, 10, 98, 99}) {
            CHECK.due("V", good("d2 0;s1,1;l0 0 " + v + ";", 1).loaf(0, 2), v);
        }
        CHECK.due("V 099", good("d2 0;s1,1;l0 0 099;", 1).loaf(0, 2), 99);
        for (int v : new int[] {100, 101, 199, 999, 1000, 9999}) {
            text("d2 0;s1,1;l0 0 " + v + ";", -12, 15);
        }
    }

    /** ''n' D .. 0 untold; once'. */
    private static void nightmares() {
        for (int n = 2; n <= 5; n++) {
            for (int d = 0; d <= 6; d++) {
                if (d < n) {
                    CHECK.due("nightmare", good("d" + n + " 0;n" + d + ";", 0).told(4), d);
                } else {
                    text("d" + n + " 0;n" + d + ";", -12, 6);
                }
            }
        }
        CHECK.due("untold", good("d5 0;", 0).told(4), 0);
        text("d2 0;n0;n0;", -13, 8);
        text("d2 0;n0;s1,1;n1;", -13, 13);
        text("d2 0;n0;n", -13, 8);
        SleptBread b = good("d5 0;n4;", 0);
        Check.feed(b, "d5 0;");
        b.street();
        CHECK.due("untold again", b.told(4), 0);
        Check.feed(b, "d5 0;n3;");
        CHECK.due("told once in each text", b.street(), 0);
        CHECK.due("the nightmare of this text", b.told(4), 3);
    }

    /** 'NUMBERS have one to three figures'; what stands beside the figures in the table of signs is none. */
    private static void figures() {
        good("d2 0;", 0);
        good("d02 00;", 0);
        good("d002 000;", 0);
        text("d0002 0;", -12, 1);
        text("d2 0000;", -12, 3);
        text("d2 00000;", -12, 3);
        text("d / 0;", -11, 2);
        text("d : 0;", -11, 2);
        text("d2/0;", -11, 2);
        text("d2:0;", -11, 2);
        text("d2 0:", -11, 4);
        text("d+2 0;", -11, 1);
        text("d2.0;", -11, 2);
        text("d" + (char) ('2' + 128) + " 0;", -11, 1);
        good("d5 5;s9,9,9,9,9;s0,1,2,3,4;s5,6,7,8,9;", 3);
    }

    /** Numbers that would fit again if they were cut to 32 or 64 bits. */
    private static void wrappedNumbers() {
        text("d4294967298 0;", -12, 1);
        text("d18446744073709551618 0;", -12, 1);
        text("d2 4294967296;", -12, 3);
        text("d2 18446744073709551616;", -12, 3);
        text("d2 0;s4294967297,1;", -12, 6);
        text("d2 0;s1,1;l4294967296 0 0;", -12, 11);
        text("d2 0;s1,1;l0 0 4294967300;", -12, 15);
        text("d2 0;n4294967297;", -12, 6);
        text("d258 0;", -12, 1);
        text("d1002 0;", -12, 1);
        text("d2 1000;", -12, 3);
    }

    /** 'blanks (32) may stand anywhere but within NUMBERS'. */
    private static void blanks() {
        String plain = "d3 4;s1,2,3;s4,5,6;l1 2 98;n2;";
        for (int at = 0; at <= plain.length(); at++) {
            if (at == plain.indexOf("98") + 1) {
                continue;
            }
            String spread = plain.substring(0, at) + "   " + plain.substring(at);
            SleptBread b = good(spread, 2);
            CHECK.due("value with blanks at " + at, b.loaf(0, 2), 98);
            CHECK.due("nightmare with blanks at " + at, b.told(4), 2);
            CHECK.due("weight with blanks at " + at, b.weight(1, 1), 5);
        }
        text("d3 4;s1,2,3;s4,5,6;l1 2 9 8;n2;", -11, 26);
        text("d0 2 0;", -12, 1);
        text("d2 0 2;", -11, 5);
        text("d2 0;s0 1,1;", -11, 8);
        text("d2 0;s1,0 1;", -11, 10);
        text("d2 0;n0 1;", -11, 8);
    }

    /** 'two NUMBERS side by side need one'; other signs are no blanks. */
    private static void noBlanks() {
        text("d20;", -12, 1);
        text("d2 0;s1,1;l000;", -11, 14);
        text("d2 0;s1,1;l00 5;", -12, 14);
        text("d2 0;s1,1;l0 05;", -12, 13);
        text("d2 0;s1,1;l0 00;", -11, 15);
        for (int sign : new int[] {0, 1, 9, 10, 11, 12, 13, 31, 33, 127, 128, 160, 255}) {
            text("d2" + (char) sign + "0;", -11, 2);
            text((char) sign + "d2 0;", -11, 0);
            text("d2 0;" + (char) sign, -11, 5);
        }
    }

    /** 'a word is one letter', 'a letter that is no word, another word first than 'd''. */
    private static void words() {
        for (int letter = 0; letter <= 255; letter++) {
            if (letter == 'd' || letter == ' ') {
                continue;
            }
            text((char) letter + "2 0;", -11, 0);
        }
        for (int letter = 0; letter <= 255; letter++) {
            boolean word = letter == 'd' || letter == 's' || letter == 'l' || letter == 'n' || letter == ' ';
            if (!word) {
                text("d2 0;" + (char) letter + "0;", -11, 5);
            }
        }
        text("dd2 0;", -11, 1);
        text("d2 0;ss1,1;", -11, 6);
        text("d2 0;nn1;", -11, 6);
        text("d2 0;s1,1;ll0 0 0;", -11, 11);
        text("dream2 0;", -11, 1);
        text("d2 0;sl0 0 0;", -11, 6);
    }

    /** 'at the first letter that has one': a later fault is not told, whatever its number. */
    private static void firstFault() {
        text("d2 0;s0,0;x", -14, 8);
        text("d2 0;s0,0;d2 0;", -14, 8);
        text("d2 0;s0,0;s99,1;", -14, 8);
        text("d2 0;d9 9;x", -13, 5);
        text("d2 0;n0;n9;s0,0;", -13, 8);
        text("d9 9;x", -12, 1);
        text("d2 9;s0,0;", -12, 3);
        text("d2 0;n2;n0;", -12, 6);
        text("d2 0;s10,0;s0,0;", -12, 6);
        text("d2 0;s0,0,99;", -14, 8);
        text("d2 0;s0,0 99;", -14, 8);
        text("d2 0;s0,0", -14, 8);
        text("d2 0;x;s0,0;", -11, 5);
        text("d2 0;" + rows("s1,1;", 6) + "s0,0;", -13, 35);
        text("d2 0;" + rows("s1,1;", 6) + "s99,x", -13, 35);
        text("d2 0;s1,1;" + rows("l0 0 0;", 7) + "l7 7 777;", -13, 59);
    }

    /** 'of these the least': where two faults are at one letter. */
    private static void leastFault() {
        text("d2 0;s0,0000;", -12, 8);
        text("d2 0;s0,00000", -12, 8);
        text("d2 0 d2 0;", -11, 5);
        text("d2 0;n0 n0;", -11, 8);
        text("d2 0;n0;nn", -13, 8);
        text("d2 0;" + rows("s1,1;", 5) + "s1,1 s1,1;", -11, 35);
        text("d2 0;s1,1;" + rows("l0 0 0;", 6) + "l0 0 0 l0 0 0;", -11, 59);
        text("n0;n0;", -11, 0);
        text("d9999 0;", -12, 1);
    }

    /** 'the end at the text's length': a text may break off at every letter. */
    private static void theEnd() {
        String whole = "d3 4;s1,2,3;l0 2 98;n2;";
        int[] ends = {5, 12, 20, 23};
        for (int length = 1; length <= whole.length(); length++) {
            boolean ended = false;
            for (int end : ends) {
                ended |= end == length;
            }
            if (!ended) {
                text(whole.substring(0, length), -11, length);
                text(whole.substring(0, length) + "  ", -11, length + 2);
            } else {
                good(whole.substring(0, length), length >= 12 ? 1 : 0);
            }
        }
    }

    /** 'An empty text: no DREAMS'. */
    private static void emptyText() {
        SleptBread b = new SleptBread();
        CHECK.due("an empty text is a street", b.street(), 0);
        CHECK.due("an empty text has no fault", b.fault(), NONE);
        CHECK.due("an empty text has no dreams", b.told(0), 0);
        Check.feed(b, "d3 4;s1,2,3;l0 2 98;n2;");
        b.street();
        CHECK.due("empty behind a street", b.street(), 0);
        for (int what = 0; what <= 13; what++) {
            CHECK.due("nothing is told of it: " + what, b.told(what), 0);
        }
        CHECK.due("no sleeper", b.weight(0, 0), SleptBread.UNKNOWN);
        CHECK.due("no loaf", b.loaf(0, 0), SleptBread.UNKNOWN);
        CHECK.due("no dream", b.bite(0), SleptBread.UNKNOWN);
    }

    /** 'it is empty then, with a FAULT, too'. */
    private static void textIsGone() {
        SleptBread b = new SleptBread();
        Check.feed(b, "d3 0;x");
        CHECK.due("with a fault", b.street(), -11);
        CHECK.due("gone with a fault", b.told(5), 0);
        CHECK.due("behind it an empty text", b.street(), 0);
        CHECK.due("without a fault", b.fault(), NONE);
        Check.feed(b, "d3 0;s1,1,1;");
        b.street();
        CHECK.due("gone without a fault", b.told(5), 0);
        Check.feed(b, "n0;");
        CHECK.due("it goes on from nothing", b.street(), -11);
        CHECK.due("all else is as it was", b.told(0), 3);
        CHECK.due("sleepers as they were", b.told(2), 1);
    }

    /** 'The letter of the FAULT of the latest street(); NONE'. */
    private static void faultOfTheLatest() {
        SleptBread b = new SleptBread();
        CHECK.due("no street yet", b.fault(), NONE);
        Check.feed(b, "d3 0; x");
        CHECK.due("no street of this text yet", b.fault(), NONE);
        b.street();
        CHECK.due("the latest had one", b.fault(), 6);
        Check.feed(b, "d3 0;n9;");
        CHECK.due("the next is not yet", b.fault(), 6);
        b.street();
        CHECK.due("the next", b.fault(), 6);
        Check.feed(b, "d3 9;");
        b.street();
        CHECK.due("another", b.fault(), 3);
        Check.feed(b, "d3 5;");
        b.street();
        CHECK.due("none", b.fault(), NONE);
        Check.feed(b, "q");
        b.street();
        CHECK.due("at the first letter", b.fault(), 0);
        b.street();
        CHECK.due("none of an empty text", b.fault(), NONE);
    }

    /** 'What has a number has it from 0 on, as it comes': sleepers, loaves and nightmares may come mixed. */
    private static void numbersAsTheyCome() {
        SleptBread b = good("d2 0;n1;s1,0;l0 0 10;s2,0;l1 1 20;l0 1 30;s3,0;l2 0 40;", 3);
        int[] weights = {1, 2, 3};
        for (int s = 0; s < 3; s++) {
            CHECK.due("sleeper " + s, b.weight(s, 0), weights[s]);
        }
        int[][] loaves = {{0, 0, 10}, {1, 1, 20}, {0, 1, 30}, {2, 0, 40}};
        for (int l = 0; l < 4; l++) {
            for (int what = 0; what < 3; what++) {
                CHECK.due("loaf " + l + " row " + what, b.loaf(l, what), loaves[l][what]);
            }
        }
    }

    /** Loaf 0 lies on 2, loaf 1 is slept on and salted, loaf 2 is fresh; much else is so. */
    private static SleptBread busy() {
        SleptBread b = Check.street("d2 1;s1,0;s0,1;s1,1;l0 1 40;l1 0 10;l2 0 8;n1;");
        b.seed(815);
        b.lay(0, 1);
        b.night(1);
        b.eat(0);
        b.lay(1, 0);
        b.night(1);
        b.salt(1);
        b.lay(0, 2);
        b.wake(2, true);
        b.keep(0);
        b.keep(1);
        b.bite(1);
        b.write(0, 0, 5);
        b.seed(4711);
        return b;
    }

    /** 'all LOAVES FRESH, nobody AWAKE, NIGHTS, EARNED 0; no BITES, no BOOK; IMAGES are gone; THE SEED stays'. */
    private static void allIsNew() {
        SleptBread b = busy();
        String text = "d2 2;s0,1;s1,0;s0,1;l0 0 1;l1 1 2;l2 0 3;";
        Check.feed(b, text);
        b.street();
        SleptBread twin = new SleptBread();
        twin.seed(4711);
        Check.feed(twin, text);
        twin.street();
        for (int l = 0; l < 3; l++) {
            CHECK.due("on no pillow", b.loaf(l, 3), NONE);
            CHECK.due("fresh", b.loaf(l, 4), NONE);
            CHECK.due("not salted", b.loaf(l, 5), 0);
        }
        CHECK.due("nights", b.told(6), 0);
        CHECK.due("earned", b.told(7), 0);
        CHECK.due("awake", b.told(8), 0);
        CHECK.due("on pillows", b.told(9), 0);
        CHECK.due("slept on", b.told(10), 0);
        CHECK.due("salted", b.told(11), 0);
        CHECK.due("bites", b.told(12), 0);
        CHECK.due("entries", b.told(13), 0);
        String seen = Seen.of(b);
        CHECK.holds("as a new object's street: " + seen, seen.equals(Seen.of(twin)));
    }

    /** '-10 less the number of its FAULT (all else is as it was)'. */
    private static void allIsAsItWas() {
        String[] texts = {"x", "d3 4;s1,2,3;l0 2", "d3 4;n2;s1,2,33;", "d3 4;s1,2,3;l0 2 98;d", "d3 4;s1,2,3;s0,0,0;"};
        int[] answers = {-11, -11, -12, -13, -14};
        int[] places = {0, 16, 13, 20, 17};
        for (int i = 0; i < texts.length; i++) {
            SleptBread b = busy();
            Check.feed(b, texts[i]);
            CHECK.due("street of '" + texts[i] + "'", b.street(), answers[i]);
            String seen = Seen.of(b);
            String due = Seen.of(busy()).replace("fault=-1 ", "fault=" + places[i] + " ");
            CHECK.holds("all else behind '" + texts[i] + "': " + seen + " was " + due, seen.equals(due));
        }
    }
}
