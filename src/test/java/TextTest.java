/** Promises 2, 3, 4: THE TEXT, what it becomes, and its first FAULT. */
final class TextTest {
    private static final Check CHECK = new Check("TextTest");
    private static final String SIX = "d2 1;s1,1;s1,1;s1,1;s1,1;s1,1;s1,1;";

    public static void main(String[] args) {
        feeding();
        goodTexts();
        misplaced();
        badNumbers();
        tooOften();
        allZero();
        afterFault();
        afterStreet();
        CHECK.finish();
    }

    private static void feeding() {
        SleptBread b = new SleptBread();
        CHECK.due("feed(-1)", b.feed(-1), SleptBread.OUTSIDE);
        CHECK.due("feed(256)", b.feed(256), SleptBread.OUTSIDE);
        CHECK.due("feed(least)", b.feed(Integer.MIN_VALUE), SleptBread.OUTSIDE);
        CHECK.due("feed(most)", b.feed(Integer.MAX_VALUE), SleptBread.OUTSIDE);
        CHECK.due("letters after refusals", b.told(5), 0);
        CHECK.due("feed(0)", b.feed(0), 1);
        CHECK.due("feed(255)", b.feed(255), 2);
        for (int i = 3; i <= 240; i++) {
            CHECK.due("feed to " + i, b.feed(' '), i);
        }
        CHECK.due("feed when full", b.feed(' '), SleptBread.FULL);
        CHECK.due("OUTSIDE goes ahead of FULL", b.feed(300), SleptBread.OUTSIDE);
        CHECK.due("letters when full", b.told(5), 240);
        CHECK.due("street of signs that are no words", b.street(), -11);
        CHECK.due("its fault", b.fault(), 0);
        CHECK.due("letters after street", b.told(5), 0);
        CHECK.due("feed anew", b.feed('d'), 1);
    }

    private static void text(String text, int answer, int place) {
        SleptBread b = new SleptBread();
        Check.feed(b, text);
        CHECK.due("street of '" + text + "'", b.street(), answer);
        CHECK.due("fault of '" + text + "'", b.fault(), place);
    }

    private static void good(String text, int sleepers) {
        text(text, sleepers, SleptBread.NONE);
    }

    private static void goodTexts() {
        good("", 0);
        good("   ", 0);
        good("d2 0;", 0);
        good("d5 5;", 0);
        good("  d  2   0  ;  s 1 , 2 ; l 0 1 99 ; n 1 ;  ", 1);
        good("d002 000;s001,009;l000 001 099;n001;", 1);
        good("d2 0;n0;s0,1;", 1);
        good(SIX, 6);
        good(SIX + "l0 0 0;l0 0 0;l0 0 0;l0 0 0;l0 0 0;l5 1 0;l5 1 99;", 6);
        SleptBread b = Check.street("d3 4;s0,0,7;n2;s1,2,3;l1 2 98;");
        CHECK.due("N", b.told(0), 3);
        CHECK.due("G", b.told(1), 4);
        CHECK.due("SLEEPERS", b.told(2), 2);
        CHECK.due("LOAVES", b.told(3), 1);
        CHECK.due("NIGHTMARE", b.told(4), 2);
        CHECK.due("W of 0", b.weight(0, 2), 7);
        CHECK.due("W of 1", b.weight(1, 1), 2);
        CHECK.due("E", b.loaf(0, 0), 1);
        CHECK.due("D", b.loaf(0, 1), 2);
        CHECK.due("V", b.loaf(0, 2), 98);
        String full = SIX + " ".repeat(240 - SIX.length());
        good(full, 6);
    }

    private static void misplaced() {
        text("s1,1;", -11, 0);
        text("l0 0 0;", -11, 0);
        text("n0;", -11, 0);
        text("  x", -11, 2);
        text(";", -11, 0);
        text("7", -11, 0);
        text("D2 0;", -11, 0);
        text("\t", -11, 0);
        text("d", -11, 1);
        text("d   ", -11, 4);
        text("d;", -11, 1);
        text("d2;", -11, 2);
        text("d2", -11, 2);
        text("d2,0;", -11, 2);
        text("d2 0", -11, 4);
        text("d2 0  ", -11, 6);
        text("d2 0 0;", -11, 5);
        text("d2 0 1234;", -11, 5);
        text("d2 0 d2 0;", -11, 5);
        text("d-2 0;", -11, 1);
        text("d2 0;;", -11, 5);
        text("d2 0;x", -11, 5);
        text("d2 0;S1,1;", -11, 5);
        text("d2 0;s;", -11, 6);
        text("d2 0;s", -11, 6);
        text("d2 0;s1;", -11, 7);
        text("d2 0;s1", -11, 7);
        text("d2 0;s1 1;", -11, 8);
        text("d2 0;s1,;", -11, 8);
        text("d2 0;s1,1", -11, 9);
        text("d2 0;s1,1,1;", -11, 9);
        text("d2 0;s1,1 ,1;", -11, 10);
        text("d2 0;s0;", -11, 7);
        text("d2 0;s1,1;l0 0;", -11, 14);
        text("d2 0;s1,1;l0,0 0;", -11, 12);
        text("d2 0;s1,1;l0 0 0 0;", -11, 17);
        text("d2 0;s1,1;l0 0 0", -11, 16);
        text("d2 0;n;", -11, 6);
        text("d2 0;n0 0;", -11, 8);
        text("d2 0;n0", -11, 7);
    }

    private static void badNumbers() {
        text("d1 0;", -12, 1);
        text("d6 0;", -12, 1);
        text("d0 0;", -12, 1);
        text("d20;", -12, 1);
        text("d0002 0;", -12, 1);
        text("d  9", -12, 3);
        text("d2 6;", -12, 3);
        text("d2 0000;", -12, 3);
        text("d2 99999999999999999999;", -12, 3);
        text("d2 0;s10,1;", -12, 6);
        text("d2 0;s1,10;", -12, 8);
        text("d2 0;s0,0000;", -12, 8);
        text("d2 0;s0001,1;", -12, 6);
        text("d2 0;l0 0 0;", -12, 6);
        text("d2 0;l0 0 0;s1,1;", -12, 6);
        text("d2 0;s1,1;l1 0 0;", -12, 11);
        text("d2 0;s1,1;l0 2 0;", -12, 13);
        text("d2 0;s1,1;l0 0 100;", -12, 15);
        text("d2 0;s1,1;l0 0 0099;", -12, 15);
        text("d2 0;s1,1;l0 0 0;l1 0 0;", -12, 18);
        text("d2 0;n2;", -12, 6);
        text("d5 0;n5;", -12, 6);
        good("d5 0;n4;", 0);
    }

    private static void tooOften() {
        text("d2 0;d", -13, 5);
        text("d2 0;  d2 0;", -13, 7);
        text("d2 0;n0;n", -13, 8);
        text("d2 0;n1;n1;", -13, 8);
        text(SIX + "s1,1;", -13, SIX.length());
        text(SIX + "s", -13, SIX.length());
        String seven = SIX + "l0 0 0;l0 0 0;l0 0 0;l0 0 0;l0 0 0;l0 0 0;l0 0 0;";
        text(seven + " l", -13, seven.length() + 1);
        text(seven + "l9 9 999;", -13, seven.length());
    }

    private static void allZero() {
        text("d2 0;s0,0;", -14, 8);
        text("d2 0;s0, 000 ;", -14, 9);
        text("d2 0;s1,0;s0,0;", -14, 13);
        text("d3 0;s0,0,0;", -14, 10);
        text("d2 0;s0,0", -14, 8);
        text("d2 0;s0,0,1;", -14, 8);
        text("d2 0;s0,0x", -14, 8);
        good("d2 0;s0,1;", 1);
        good("d2 0;s1,0;", 1);
    }

    /** With a FAULT the text is gone and all else is as it was. */
    private static void afterFault() {
        SleptBread b = Check.street("d2 1;s1,3;s2,2;l0 1 40;n1;");
        b.wake(1, true);
        b.salt(0);
        b.bite(0);
        b.write(0, 0, 1);
        b.keep(1);
        b.seed(77);
        b.night(2);
        Check.feed(b, "d3 0;s1,1,1;l");
        CHECK.due("street with a fault", b.street(), -11);
        CHECK.due("place of the fault", b.fault(), 13);
        int[] due = {2, 1, 2, 1, 1, 0, 2, 0, 2, 0, 0, 1, 1, 1};
        for (int what = 0; what < due.length; what++) {
            CHECK.due("after a fault told(" + what + ")", b.told(what), due[what]);
        }
        CHECK.due("weight after a fault", b.weight(0, 1), 3);
        CHECK.due("loaf after a fault", b.loaf(0, 2), 40);
        CHECK.due("image after a fault", b.goBack(1), 1);
        CHECK.due("fault stays till the next street", b.fault(), 13);
        Check.feed(b, "d2 0;n1;");
        CHECK.due("street behind a fault", b.street(), 0);
        CHECK.due("no fault any more", b.fault(), SleptBread.NONE);
        CHECK.due("its nightmare", b.told(4), 1);
        Check.feed(b, "d2 0;n1");
        CHECK.due("letters of an older text do not count", b.street(), -11);
        CHECK.due("the end is the end", b.fault(), 7);
    }

    /** Without a FAULT all is new but THE SEED. */
    private static void afterStreet() {
        SleptBread b = Check.street("d2 1;s1,0;s2,2;l0 0 40;n1;");
        b.wake(0, true);
        b.lay(0, 1);
        b.night(1);
        CHECK.due("earned there", b.eat(0), 40);
        b.lay(0, 1);
        b.night(1);
        b.salt(0);
        b.bite(0);
        b.write(0, 0, 1);
        b.keep(0);
        b.keep(1);
        b.seed(77);
        Check.feed(b, "d3 2;s1,1,1;s2,2,2;s3,3,3;l0 1 5;l1 0 6;");
        CHECK.due("second street", b.street(), 3);
        int[] due = {3, 2, 3, 2, 0, 0, 0, 0, 0, 0, 0, 0, 0, 0};
        for (int what = 0; what < due.length; what++) {
            CHECK.due("after street told(" + what + ")", b.told(what), due[what]);
        }
        CHECK.due("loaf is fresh", b.loaf(0, 4), SleptBread.NONE);
        CHECK.due("image 0 is gone", b.goBack(0), SleptBread.NOT);
        CHECK.due("image 1 is gone", b.goBack(1), SleptBread.NOT);
        CHECK.due("the seed stays", b.seed(1), 77);
        b.lay(0, 1);
        b.night(1);
        b.eat(0);
        CHECK.due("street of an empty text", b.street(), 0);
        for (int what = 0; what < due.length; what++) {
            CHECK.due("empty street told(" + what + ")", b.told(what), 0);
        }
        CHECK.due("no sleeper", b.likeliest(0), SleptBread.UNKNOWN);
        CHECK.due("no night", b.night(1), SleptBread.NOT);
        Check.feed(b, "d2 0;s0,1;");
        b.street();
        CHECK.due("nothing of an older text", b.weight(0, 0), 0);
        CHECK.due("all weights of the new text", b.odds(0, 1, 1), 1);
    }
}
