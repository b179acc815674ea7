/** Promises 29 to 34: books, the seed, images. */
final class BookTest {
    private static final int NONE = SleptBread.NONE;
    private static final int UNKNOWN = SleptBread.UNKNOWN;
    private static final int OUTSIDE = SleptBread.OUTSIDE;
    private static final int NOT = SleptBread.NOT;
    private static final int FULL = SleptBread.FULL;
    private static final int[] STRANGE = {-2, 10, 100, Integer.MIN_VALUE, Integer.MAX_VALUE};
    private static final Check CHECK = new Check("BookTest");
    private static final String PLAIN = "d2 1;s1,3;s2,2;s3,0;l0 1 40;l1 0 10;l2 1 8;n1;";

    public static void main(String[] args) {
        write();
        tear();
        judge();
        seed();
        images();
        twoImages();
        imagesLeaveAlone();
        constants();
        CHECK.finish();
    }

    private static void write() {
        SleptBread b = Check.street(PLAIN);
        CHECK.due("write(3, 0, 0)", b.write(3, 0, 0), UNKNOWN);
        CHECK.due("write(0, 2, 0)", b.write(0, 2, 0), UNKNOWN);
        CHECK.due("write(-1, 0, 0)", b.write(-1, 0, 0), UNKNOWN);
        CHECK.due("write(0, -1, 0)", b.write(0, -1, 0), UNKNOWN);
        CHECK.due("write(0, 0, 10)", b.write(0, 0, 10), OUTSIDE);
        CHECK.due("write(0, 0, -1)", b.write(0, 0, -1), OUTSIDE);
        CHECK.due("UNKNOWN sleeper goes first", b.write(3, 0, 10), UNKNOWN);
        CHECK.due("UNKNOWN dream goes first", b.write(0, 2, -1), UNKNOWN);
        CHECK.due("no entry yet", b.told(13), 0);
        for (int i = 1; i <= 15; i++) {
            CHECK.due("entry " + i, b.write(i % 3, i % 2, i % 10), i);
        }
        CHECK.due("a sixteenth", b.write(0, 0, 0), FULL);
        CHECK.due("OUTSIDE goes ahead of FULL", b.write(0, 0, 10), OUTSIDE);
        CHECK.due("UNKNOWN goes ahead of FULL", b.write(3, 0, 0), UNKNOWN);
        CHECK.due("entries", b.told(13), 15);
        for (int strange : STRANGE) {
            CHECK.due("write of a strange one", b.write(strange, 0, 0), UNKNOWN);
            CHECK.due("write of a strange dream", b.write(0, strange, 0), UNKNOWN);
            CHECK.due("write of a strange weight", b.write(0, 0, strange), OUTSIDE);
        }
    }

    private static void tear() {
        SleptBread b = Check.street(PLAIN);
        CHECK.due("nothing to tear", b.tear(), 0);
        b.bite(0);
        b.bite(1);
        b.write(0, 0, 9);
        b.write(0, 0, 9);
        b.write(0, 0, 9);
        CHECK.due("both had", b.tear(), 5);
        CHECK.due("no bites", b.told(12), 0);
        CHECK.due("no entries", b.told(13), 0);
        CHECK.due("all may be", b.mayBe(), 7);
        CHECK.due("nothing wrong", b.judge(), NONE);
        CHECK.due("torn already", b.tear(), 0);
        CHECK.due("bite anew", b.bite(1), 1);
        CHECK.due("write anew", b.write(0, 0, 1), 1);
    }

    private static void judge() {
        SleptBread b = Check.street("d2 2;s1,0;s0,1;l0 0 5;");
        CHECK.due("empty book", b.judge(), NONE);
        b.write(0, 0, 1);
        b.write(1, 0, 0);
        CHECK.due("all so", b.judge(), NONE);
        b.write(0, 1, 2);
        b.write(1, 1, 9);
        CHECK.due("the first wrong", b.judge(), 2);
        b.lay(0, 1);
        b.night(1);
        b.eat(0);
        CHECK.due("it is so now", b.judge(), 3);
        b.tear();
        b.write(0, 1, 0);
        CHECK.due("it was so", b.judge(), 0);
    }

    private static void seed() {
        SleptBread b = new SleptBread();
        CHECK.due("at first", b.seed(Integer.MAX_VALUE), 0);
        CHECK.due("most", b.seed(0), Integer.MAX_VALUE);
        CHECK.due("least", b.seed(7), 0);
        CHECK.due("seed(-1)", b.seed(-1), OUTSIDE);
        CHECK.due("seed(least)", b.seed(Integer.MIN_VALUE), OUTSIDE);
        CHECK.due("a refusal changes nothing", b.seed(7), 7);
        Check.feed(b, "d2 0;s1,1;");
        b.street();
        b.seed(Integer.MAX_VALUE);
        b.night(1);
        CHECK.due("drawn from the most", b.seed(0), 1043980748);
    }

    private static void images() {
        SleptBread b = Check.street("d2 2;s3,0;s0,2;l0 1 40;l1 0 9;l0 0 3;");
        CHECK.due("keep(2)", b.keep(2), UNKNOWN);
        CHECK.due("keep(-1)", b.keep(-1), UNKNOWN);
        CHECK.due("goBack(2)", b.goBack(2), UNKNOWN);
        CHECK.due("goBack(-1)", b.goBack(-1), UNKNOWN);
        CHECK.due("0 not kept", b.goBack(0), NOT);
        CHECK.due("1 not kept", b.goBack(1), NOT);
        for (int strange : STRANGE) {
            CHECK.due("keep a strange one", b.keep(strange), UNKNOWN);
            CHECK.due("go back to a strange one", b.goBack(strange), UNKNOWN);
        }
        b.lay(0, 1);
        b.night(1);
        b.eat(0);
        b.lay(0, 1);
        b.lay(1, 0);
        b.wake(1, true);
        b.night(1);
        b.salt(2);
        b.seed(99);
        CHECK.due("keep", b.keep(1), 1);
        b.takeOff(0);
        b.eat(1);
        b.lay(1, 0);
        b.seed(0);
        b.night(1);
        CHECK.due("earned more", b.eat(1), 49);
        b.lay(2, 1);
        b.salt(0);
        b.wake(1, false);
        b.wake(0, true);
        b.night(5);
        b.eat(2);
        CHECK.due("other image not kept", b.goBack(0), NOT);
        for (int again = 0; again < 2; again++) {
            CHECK.due("goBack", b.goBack(1), 1);
            keptIsBack(b);
            b.night(3);
            b.eat(1);
        }
    }

    private static void keptIsBack(SleptBread b) {
        int[] weights = {3, 2, 0, 2};
        for (int i = 0; i < 4; i++) {
            CHECK.due("weight of the image", b.weight(i / 2, i % 2), weights[i]);
        }
        CHECK.due("nights of the image", b.told(6), 2);
        CHECK.due("earned of the image", b.told(7), 40);
        CHECK.due("awake of the image", b.told(8), 2);
        CHECK.due("on pillows of the image", b.told(9), 1);
        CHECK.due("slept on of the image", b.told(10), 2);
        CHECK.due("salted of the image", b.told(11), 4);
        CHECK.due("pillow of the image", b.loaf(0, 3), 1);
        CHECK.due("taste of the image", b.loaf(1, 4), 1);
        CHECK.due("seed of the image", b.seed(99), 99);
    }

    private static void twoImages() {
        SleptBread b = Check.street(PLAIN);
        b.seed(10);
        b.keep(0);
        b.seed(20);
        b.keep(1);
        b.seed(30);
        b.goBack(0);
        CHECK.due("image 0", b.seed(40), 10);
        b.goBack(1);
        CHECK.due("image 1", b.seed(50), 20);
        b.keep(0);
        b.seed(60);
        b.goBack(0);
        CHECK.due("image 0 kept anew", b.seed(70), 50);
        b.goBack(1);
        CHECK.due("image 1 stays", b.seed(80), 20);
    }

    /** Bites, the book and the text are not in an image. */
    private static void imagesLeaveAlone() {
        SleptBread b = Check.street(PLAIN);
        b.bite(0);
        b.write(0, 0, 1);
        b.keep(0);
        b.bite(1);
        b.write(0, 0, 2);
        b.write(0, 0, 3);
        b.feed('d');
        b.goBack(0);
        CHECK.due("bites stay", b.told(12), 2);
        CHECK.due("entries stay", b.told(13), 3);
        CHECK.due("letters stay", b.told(5), 1);
        CHECK.due("the book is judged", b.judge(), 1);
    }

    private static void constants() {
        CHECK.due("NONE", SleptBread.NONE, -1);
        CHECK.due("UNKNOWN", SleptBread.UNKNOWN, -1000000001);
        CHECK.due("OUTSIDE", SleptBread.OUTSIDE, -1000000002);
        CHECK.due("NOT", SleptBread.NOT, -1000000003);
        CHECK.due("FULL", SleptBread.FULL, -1000000004);
    }
}
