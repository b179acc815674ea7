/** Promises 29 to 34, at their boundaries: THE BOOK, THE SEED, IMAGES. */
final class EdgeBookTest {
    private static final int NONE = SleptBread.NONE;
    private static final int UNKNOWN = SleptBread.UNKNOWN;
    private static final int OUTSIDE = SleptBread.OUTSIDE;
    private static final int NOT = SleptBread.NOT;
    private static final int FULL = SleptBread.FULL;
    private static final Check CHECK = new Check("EdgeBookTest");
    private static final String TWO = "d2 3;s1,0;s0,1;l0 1 40;l1 0 50;l0 1 60;";

    public static void main(String[] args) {
        fifteenEntries();
        weightsOfEntries();
        wrongAtEveryPlace();
        wrongNow();
        tornBoth();
        seedBounds();
        seedOverStreets();
        twoImagesOnly();
        imageOfEachThing();
        imageKeptAnew();
        imageStays();
        imagesAreGone();
        imagesOfNoStreet();
        notInImages();
        CHECK.finish();
    }

    /** 'THE BOOK (15 at most)', 'FULL (15)'. */
    private static void fifteenEntries() {
        SleptBread b = Check.street("d5 0;s1,1,1,1,1;s1,1,1,1,1;s1,1,1,1,1;s1,1,1,1,1;s1,1,1,1,1;s1,1,1,1,9;");
        for (int round = 0; round < 2; round++) {
            for (int i = 1; i <= 15; i++) {
                CHECK.due("entry " + i, b.write(i % 6, i % 5, i % 10), i);
                CHECK.due("entries told", b.told(13), i);
            }
            CHECK.due("a sixteenth", b.write(0, 0, 0), FULL);
            CHECK.due("fifteen yet", b.told(13), 15);
            CHECK.due("torn", b.tear(), 15);
        }
        CHECK.due("the last weight of the last", b.write(5, 4, 9), 1);
        CHECK.due("it is so", b.judge(), NONE);
        CHECK.due("no such sleeper", b.write(6, 4, 9), UNKNOWN);
        CHECK.due("no such dream", b.write(5, 5, 9), UNKNOWN);
        CHECK.due("no street", new SleptBread().write(0, 0, 10), UNKNOWN);
    }

    /** 'An entry (0 .. 9)'. */
    private static void weightsOfEntries() {
        for (int w = -2; w <= 11; w++) {
            SleptBread b = Check.street("d2 0;s4,0;");
            boolean may = w >= 0 && w <= 9;
            CHECK.due("entry of " + w, b.write(0, 0, w), may ? 1 : OUTSIDE);
            CHECK.due("entries behind " + w, b.told(13), may ? 1 : 0);
            CHECK.due("judged " + w, b.judge(), may && w != 4 ? 0 : NONE);
        }
    }

    /** 'WRONG: the first that is otherwise now; NONE'. */
    private static void wrongAtEveryPlace() {
        for (int place = 0; place <= 15; place++) {
            SleptBread b = Check.street("d3 0;s0,5,9;s2,0,7;");
            int[] weights = {0, 5, 9, 2, 0, 7};
            for (int i = 0; i < 15; i++) {
                int cell = i * 5 % 6;
                b.write(cell / 3, cell % 3, i < place ? weights[cell] : 8);
            }
            CHECK.due("the first wrong", b.judge(), place < 15 ? place : NONE);
        }
        CHECK.due("an empty book", Check.street("d2 0;s1,1;").judge(), NONE);
        CHECK.due("no dreams", new SleptBread().judge(), NONE);
    }

    private static void wrongNow() {
        SleptBread b = Check.street(TWO);
        b.write(0, 1, 0);
        b.write(0, 1, 3);
        b.keep(0);
        CHECK.due("the second is wrong", b.judge(), 1);
        b.lay(0, 1);
        b.night(1);
        CHECK.due("a night changes no weight", b.judge(), 1);
        b.eat(0);
        CHECK.due("the first is wrong", b.judge(), 0);
        b.goBack(0);
        CHECK.due("the second again", b.judge(), 1);
        Check.feed(b, "x");
        b.street();
        CHECK.due("a fault leaves the book", b.judge(), 1);
        Check.feed(b, TWO);
        b.street();
        CHECK.due("a street empties it", b.judge(), NONE);
        CHECK.due("no entries", b.told(13), 0);
    }

    /** 'No BITES, THE BOOK is empty: how many both had'. */
    private static void tornBoth() {
        for (int bites = 0; bites <= 8; bites += 4) {
            for (int entries = 0; entries <= 15; entries += 5) {
                SleptBread b = Check.street("d2 0;s4,0;");
                for (int i = 0; i < bites; i++) {
                    b.bite(1);
                }
                for (int i = 0; i < entries; i++) {
                    b.write(0, 0, 9);
                }
                CHECK.due("both had", b.tear(), bites + entries);
                CHECK.due("no bites", b.told(12), 0);
                CHECK.due("no entries", b.told(13), 0);
                CHECK.due("he may be", b.mayBe(), 1);
                CHECK.due("nothing is wrong", b.judge(), NONE);
                CHECK.due("nothing is left to tear", b.tear(), 0);
            }
        }
        CHECK.due("no dreams", new SleptBread().tear(), 0);
    }

    /** 'THE SEED becomes v (0 .. 2147483647): what it was'. */
    private static void seedBounds() {
        SleptBread b = new SleptBread();
        int was = 0;
        for (int v : new int[] {0, 1, Integer.MAX_VALUE, Integer.MAX_VALUE - 1, 65536, 0}) {
            CHECK.due("what it was", b.seed(v), was);
            was = v;
            CHECK.due("below 0", b.seed(-1), OUTSIDE);
            CHECK.due("far below 0", b.seed(Integer.MIN_VALUE), OUTSIDE);
        }
    }

    /** 'THE SEED stays', with a fault, too. */
    private static void seedOverStreets() {
        SleptBread b = new SleptBread();
        b.seed(815);
        Check.feed(b, TWO);
        b.street();
        CHECK.due("over a street", b.seed(816), 815);
        Check.feed(b, "x");
        b.street();
        CHECK.due("over a fault", b.seed(817), 816);
        b.street();
        CHECK.due("over an empty street", b.seed(818), 817);
    }

    /** 'IMAGES 0, 1'; 'NOT: it was not kept'. */
    private static void twoImagesOnly() {
        for (int i = -2; i <= 3; i++) {
            SleptBread b = Check.street(TWO);
            boolean is = i == 0 || i == 1;
            CHECK.due("goBack(" + i + ") ahead of keep", b.goBack(i), is ? NOT : UNKNOWN);
            CHECK.due("keep(" + i + ")", b.keep(i), is ? 1 : UNKNOWN);
            CHECK.due("goBack(" + i + ")", b.goBack(i), is ? 1 : UNKNOWN);
            CHECK.due("goBack(0)", b.goBack(0), i == 0 ? 1 : NOT);
            CHECK.due("goBack(1)", b.goBack(1), i == 1 ? 1 : NOT);
        }
    }

    /** 'keep WEIGHTS, LOAVES, who is AWAKE, NIGHTS, EARNED, THE SEED': each changes and comes back. */
    private static void imageOfEachThing() {
        for (int image = 0; image < 2; image++) {
            SleptBread b = Check.street(TWO);
            b.seed(7);
            b.keep(image);
            b.lay(0, 1);
            b.lay(1, 0);
            b.night(2);
            b.eat(0);
            b.salt(2);
            b.wake(0, true);
            b.lay(2, 1);
            b.goBack(image);
            CHECK.due("weights", b.weight(0, 1), 0);
            CHECK.due("on pillows", b.told(9), 0);
            CHECK.due("pillow", b.loaf(2, 3), NONE);
            CHECK.due("slept on", b.told(10), 0);
            CHECK.due("taste", b.loaf(1, 4), NONE);
            CHECK.due("salted", b.told(11), 0);
            CHECK.due("awake", b.told(8), 0);
            CHECK.due("nights", b.told(6), 0);
            CHECK.due("earned", b.told(7), 0);
            CHECK.due("seed", b.seed(7), 7);
            CHECK.due("the pillow is free", b.lay(0, 1), 1);
        }
    }

    private static void imageKeptAnew() {
        SleptBread b = Check.street(TWO);
        b.keep(0);
        b.keep(1);
        b.night(5);
        b.keep(1);
        b.night(6);
        b.goBack(1);
        CHECK.due("image 1 anew", b.told(6), 5);
        b.goBack(0);
        CHECK.due("image 0 as it was", b.told(6), 0);
        b.goBack(1);
        b.keep(0);
        b.goBack(0);
        CHECK.due("one image by the other", b.told(6), 5);
    }

    /** Going on from an image does not change it. */
    private static void imageStays() {
        SleptBread b = Check.street(TWO);
        b.lay(0, 1);
        b.keep(1);
        for (int i = 0; i < 4; i++) {
            CHECK.due("back", b.goBack(1), 1);
            CHECK.due("it lies", b.told(9), 1);
            CHECK.due("slept on", b.night(1 + i), 1);
            CHECK.due("nights from there", b.told(6), 1 + i);
            CHECK.due("eaten", b.eat(0), 40);
            CHECK.due("heavier once", b.weight(0, 1), 3);
            b.wake(i % 2, true);
        }
    }

    /** 'IMAGES are gone' with a street, an empty one too; not with a fault. */
    private static void imagesAreGone() {
        for (String text : new String[] {TWO, "d2 0;", "", " "}) {
            SleptBread b = Check.street(TWO);
            b.keep(0);
            b.keep(1);
            Check.feed(b, text);
            b.street();
            CHECK.due("image 0 is gone by '" + text + "'", b.goBack(0), NOT);
            CHECK.due("image 1 is gone by '" + text + "'", b.goBack(1), NOT);
            CHECK.due("it can be kept anew", b.keep(1), 1);
            CHECK.due("and gone back to", b.goBack(1), 1);
            CHECK.due("the other not", b.goBack(0), NOT);
        }
        for (String text : new String[] {"x", "d2 0", "d9 0;", "d2 0;d", "d2 0;s0,0;"}) {
            SleptBread b = Check.street(TWO);
            b.night(3);
            b.keep(0);
            b.night(4);
            Check.feed(b, text);
            b.street();
            CHECK.due("nights behind '" + text + "'", b.told(6), 7);
            CHECK.due("image 0 stays by '" + text + "'", b.goBack(0), 1);
            CHECK.due("nights of the image", b.told(6), 3);
            CHECK.due("image 1 was not kept", b.goBack(1), NOT);
        }
    }

    private static void imagesOfNoStreet() {
        SleptBread b = new SleptBread();
        CHECK.due("keep", b.keep(0), 1);
        b.seed(12);
        CHECK.due("goBack", b.goBack(0), 1);
        CHECK.due("its seed", b.seed(0), 0);
        CHECK.due("no dreams", b.told(0), 0);
        CHECK.due("no night", b.night(1), NOT);
    }

    /** BITES, THE BOOK, THE TEXT and the place of the fault are not among what an image keeps. */
    private static void notInImages() {
        SleptBread b = Check.street(TWO);
        b.keep(0);
        b.bite(1);
        b.write(0, 0, 9);
        Check.feed(b, "d2 7;");
        b.street();
        Check.feed(b, "d2");
        b.goBack(0);
        CHECK.due("bites", b.told(12), 1);
        CHECK.due("who may be", b.mayBe(), 2);
        CHECK.due("entries", b.told(13), 1);
        CHECK.due("judged", b.judge(), 0);
        CHECK.due("letters", b.told(5), 2);
        CHECK.due("fault", b.fault(), 3);
    }
}
