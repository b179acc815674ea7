/**
 * The caps that lie beyond 512 calls: 'EARNED (999999 at most)' and 'FULL: NIGHTS are above 90000'. The document leaves
 * what later calls answer free; the class keeps both caps all the same, and here they are shown.
 */
final class FarTest {
    private static final Check CHECK = new Check("FarTest");

    public static void main(String[] args) {
        nights();
        earned();
        CHECK.finish();
    }

    private static void nights() {
        SleptBread b = Check.street("d2 0;s1,0;s1,0;l0 0 1;");
        for (int i = 0; i < 2999; i++) {
            b.night(30);
        }
        CHECK.due("near it", b.told(6), 89970);
        CHECK.due("to it", b.night(30), 0);
        CHECK.due("at it", b.told(6), 90000);
        b.keep(0);
        CHECK.due("beyond it", b.night(30), 0);
        CHECK.due("nights beyond it", b.told(6), 90030);
        int seed = b.seed(0);
        b.seed(seed);
        b.lay(0, 1);
        CHECK.due("no more", b.night(1), SleptBread.FULL);
        CHECK.due("no thirty more", b.night(30), SleptBread.FULL);
        CHECK.due("OUTSIDE goes first", b.night(31), SleptBread.OUTSIDE);
        CHECK.due("OUTSIDE goes first", b.night(0), SleptBread.OUTSIDE);
        CHECK.due("no night was", b.told(6), 90030);
        CHECK.due("the loaf lies yet", b.told(9), 1);
        CHECK.due("no draw was", b.seed(0), seed);
        b.goBack(0);
        CHECK.due("90000 are not above 90000", b.night(1), 0);
        CHECK.due("90001", b.told(6), 90001);
        CHECK.due("90001 are", b.night(1), SleptBread.FULL);
        CHECK.due("a street", b.street(), 0);
        CHECK.due("NOT goes first", b.night(1), SleptBread.NOT);
        Check.feed(b, "d2 0;s1,0;");
        b.street();
        CHECK.due("nights anew", b.night(30), 0);
    }

    private static void earned() {
        SleptBread b = Check.street("d2 0;s1,0;s1,0;l0 0 99;l0 0 98;l0 0 2;");
        for (int many = 1; many <= 10100; many++) {
            earnOnce(b, 0, 99 * many);
        }
        CHECK.due("so far", b.told(7), 999900);
        earnOnce(b, 1, 999998);
        b.keep(0);
        earnOnce(b, 2, 999999);
        earnOnce(b, 0, 999999);
        b.goBack(0);
        CHECK.due("one below", b.told(7), 999998);
        earnOnce(b, 0, 999999);
        CHECK.due("at most", b.told(7), 999999);
    }

    private static void earnOnce(SleptBread b, int l, int due) {
        b.lay(l, 1);
        b.night(1);
        CHECK.due("earned", b.eat(l), due);
    }
}
