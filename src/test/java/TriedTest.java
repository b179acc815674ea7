/** Promises 17 to 21: what is tried from now, nothing changing by it. */
final class TriedTest {
    private static final int NONE = SleptBread.NONE;
    private static final int UNKNOWN = SleptBread.UNKNOWN;
    private static final int OUTSIDE = SleptBread.OUTSIDE;
    private static final int[] STRANGE = {-2, 7, 100, Integer.MIN_VALUE, Integer.MAX_VALUE};
    private static final Check CHECK = new Check("TriedTest");
    private static final String PLAIN = "d2 1;s1,3;s2,2;s3,0;l0 1 40;l1 0 10;l2 1 8;n1;";

    public static void main(String[] args) {
        beds();
        bedsOfMany();
        bedsOfLikeWorth();
        bedsNow();
        feedings();
        foretold();
        foretoldNow();
        settled();
        awake();
        awakeOfLikeOnes();
        nothingChanges();
        CHECK.finish();
    }

    private static void bedsAre(String name, SleptBread b, int most, int... where) {
        CHECK.due(name + ": how much", b.beds(NONE), most);
        for (int l = 0; l < where.length; l++) {
            CHECK.due(name + ": loaf " + l, b.beds(l), where[l]);
        }
    }

    private static void beds() {
        bedsAre("each best", Check.street(PLAIN), 36000000, 1, 2, 0);
        // Loaf 0 alone would be best on 0, but there loaf 1 has its only bed.
        bedsAre("worse for one", Check.street("d2 0;s1,0;s1,1;s0,1;l2 0 50;l1 0 40;"),
            25000000 + 40000000, 1, 0);
        bedsAre("one bed", Check.street("d2 0;s1,0;s0,1;l1 0 5;l1 0 6;"), 6000000, NONE, 0);
        bedsAre("never on its eater", Check.street("d2 0;s1,0;l0 0 99;"), 0, NONE);
        bedsAre("no loaves", Check.street("d2 0;s1,0;"), 0);
        SleptBread b = Check.street(PLAIN);
        CHECK.due("beds(3)", b.beds(3), UNKNOWN);
        for (int strange : STRANGE) {
            CHECK.due("bed of a strange one", b.beds(strange), UNKNOWN);
        }
    }

    /** All seven loaves, all six sleepers; then a lesser street on the same object. */
    private static void bedsOfMany() {
        SleptBread b = Check.street("d3 0;s5,1,0;s1,4,2;s2,2,2;s0,3,6;s7,0,1;s1,1,8;"
            + "l0 0 60;l1 1 50;l2 2 40;l3 0 30;l4 1 20;l5 2 10;l0 1 5;");
        bedsAre("seven and six", b, 52500000 + 16666666 + 32000000 + 25000000 + 11428571 + 6666666,
            4, 2, 5, 0, 1, 3, NONE);
        b.wake(4, true);
        b.wake(1, true);
        bedsAre("seven and four", b, 20000000 + 16666666 + 32000000 + 25000000, 2, 3, 5, 0, NONE, NONE, NONE);
        Check.feed(b, "d2 0;s1,0;s0,1;s1,1;l1 0 5;l0 1 6;");
        b.street();
        bedsAre("another street", b, 11000000, 0, 1);
    }

    private static void bedsOfLikeWorth() {
        bedsAre("worth nothing", Check.street("d2 0;s1,0;s1,0;s1,0;l0 1 5;l1 0 0;"), 0, NONE, NONE);
        bedsAre("lesser sleeper", Check.street("d2 0;s1,0;s1,0;s1,0;l1 0 5;"), 5000000, 0);
        bedsAre("no pillow goes first", Check.street("d2 0;s1,0;s0,1;l1 0 5;l1 0 5;"), 5000000, NONE, 0);
        bedsAre("by loaf 0 first", Check.street("d2 0;s1,0;s1,0;s0,1;l2 0 5;l2 0 5;"), 10000000, 0, 1);
    }

    /** AWAKE ones have no bed to give, loaves that are slept on need none, what lies counts as not lying. */
    private static void bedsNow() {
        SleptBread b = Check.street(PLAIN);
        b.lay(0, 2);
        b.lay(1, 0);
        bedsAre("as if none lay", b, 36000000, 1, 2, 0);
        b.wake(1, true);
        bedsAre("1 is awake", b, 16000000, NONE, 2, 0);
        b.night(1);
        bedsAre("two are slept on", b, 6000000, NONE, NONE, 0);
        b.eat(1);
        bedsAre("fresh again", b, 16000000, NONE, 2, 0);
    }

    private static void feedings() {
        SleptBread b = Check.street("d3 2;s5,1,0;s0,9,9;s3,2,4;s9,0,0;");
        int[][] due = {{0, 3, 3}, {5, 0, NONE}, {1, 1, 0}, {0, NONE, NONE}};
        for (int s = 0; s < 4; s++) {
            for (int d = 0; d < 3; d++) {
                CHECK.due("feedings(" + s + ", " + d + ")", b.feedings(s, d), due[s][d]);
            }
        }
        SleptBread one = Check.street("d2 1;s8,0;s0,9;");
        CHECK.due("nine loaves", one.feedings(0, 1), 9);
        CHECK.due("nine, and a tie for the least", one.feedings(1, 0), 9);
        SleptBread none = Check.street("d2 0;s2,1;s1,1;");
        CHECK.due("G 0, never", none.feedings(0, 1), NONE);
        CHECK.due("G 0, so already", none.feedings(0, 0), 0);
        CHECK.due("G 0, the tie stays", none.feedings(1, 1), NONE);
        CHECK.due("feedings(4, 0)", b.feedings(4, 0), UNKNOWN);
        CHECK.due("feedings(0, 3)", b.feedings(0, 3), UNKNOWN);
        CHECK.due("feedings(-1, 0)", b.feedings(-1, 0), UNKNOWN);
        CHECK.due("feedings(0, -1)", b.feedings(0, -1), UNKNOWN);
        for (int strange : STRANGE) {
            CHECK.due("feed a strange one", b.feedings(strange, 0), UNKNOWN);
            CHECK.due("feed a strange dream", b.feedings(0, strange), UNKNOWN);
        }
    }

    private static void foretold() {
        SleptBread b = Check.street(PLAIN);
        int[][] weights = {
            {1, 3, 2, 2, 3, 0}, {2, 3, 3, 2, 3, 1}, {3, 3, 4, 2, 3, 2}, {4, 3, 5, 2, 4, 2}, {5, 3, 6, 2, 5, 2},
            {6, 3, 7, 2, 6, 2}, {7, 3, 8, 2, 7, 2}, {8, 3, 9, 2, 8, 2}, {9, 3, 9, 2, 9, 2}, {9, 3, 9, 2, 9, 2}};
        for (int n = 0; n < weights.length; n++) {
            for (int i = 0; i < 6; i++) {
                CHECK.due("behind " + n + " nights weight " + i, b.foretold(i / 2, i % 2, n), weights[n][i]);
            }
            CHECK.due("likeliest of 0 behind " + n, b.foretold(0, NONE, n), n < 2 ? 1 : 0);
            CHECK.due("likeliest of 1 behind " + n, b.foretold(1, NONE, n), 0);
        }
        CHECK.due("behind 200", b.foretold(2, 0, 200), 9);
        CHECK.due("behind 201", b.foretold(2, 0, 201), OUTSIDE);
        CHECK.due("behind -1", b.foretold(2, NONE, -1), OUTSIDE);
        CHECK.due("UNKNOWN sleeper goes first", b.foretold(3, 0, 201), UNKNOWN);
        CHECK.due("UNKNOWN dream goes first", b.foretold(0, 2, 201), UNKNOWN);
        CHECK.due("sleeper -1", b.foretold(-1, 0, 1), UNKNOWN);
        for (int strange : STRANGE) {
            CHECK.due("foretold of a strange one", b.foretold(strange, NONE, 1), UNKNOWN);
            CHECK.due("foretold of a strange dream", b.foretold(0, strange, 1), UNKNOWN);
        }
        CHECK.due("far too many nights", b.foretold(0, 0, Integer.MAX_VALUE), OUTSIDE);
    }

    /** By BEDS of now: not of later nights; salted ones count; those slept on now do not lie. */
    private static void foretoldNow() {
        SleptBread b = Check.street(PLAIN);
        b.salt(0);
        CHECK.due("none salted", b.foretold(0, 0, 1), 2);
        b.wake(1, true);
        CHECK.due("1 is awake: 0 is not fed", b.foretold(0, 0, 9), 1);
        CHECK.due("awake ones eat, too", b.foretold(1, 0, 2), 4);
        b.wake(1, false);
        b.lay(0, 1);
        b.night(1);
        CHECK.due("0 is slept on", b.foretold(0, 0, 9), 1);
        CHECK.due("0 dreams as he did", b.foretold(2, 1, 2), 2);
        // Loaf 0 lies on 1; fed by loaf 1, he is a worse bed than 2 from the second night on.
        SleptBread fixed = Check.street("d2 5;s1,0;s3,1;s5,2;s0,9;l0 0 50;l1 1 9;");
        CHECK.due("bed of now", fixed.beds(0), 1);
        CHECK.due("the first night", fixed.foretold(0, 0, 1), 6);
        CHECK.due("the second, in the bed of now", fixed.foretold(0, 0, 2), 6);
        CHECK.due("what it tasted of then", fixed.foretold(0, 1, 2), 5);
    }

    private static void settled() {
        CHECK.due("plain", Check.street(PLAIN).settled(), 8);
        CHECK.due("G 0", Check.street("d2 0;s1,3;s2,2;l0 1 40;").settled(), 0);
        CHECK.due("no loaves", Check.street("d2 5;s1,3;s2,2;").settled(), 0);
        CHECK.due("worth nothing, nothing lies", Check.street("d2 5;s1,3;s2,2;l0 1 0;").settled(), 0);
        CHECK.due("nine already", Check.street("d2 5;s9,3;s2,1;l0 0 5;").settled(), 0);
        CHECK.due("one night", Check.street("d2 5;s4,3;s2,1;l0 0 5;").settled(), 1);
        CHECK.due("nine nights", Check.street("d2 1;s0,3;s2,1;l0 0 5;").settled(), 9);
        CHECK.due("by sleeper 0", Check.street("d2 1;s2,1;s0,3;l1 0 5;").settled(), 9);
        SleptBread b = Check.street(PLAIN);
        b.wake(0, true);
        b.wake(1, true);
        b.wake(2, true);
        CHECK.due("all awake", b.settled(), 0);
    }

    private static void wakeIs(String name, SleptBread b, int n, int many, int set) {
        CHECK.due(name + ": how many", b.awake(n, 0), many);
        CHECK.due(name + ": the set", b.awake(n, 1), set);
    }

    private static void awake() {
        SleptBread b = Check.street("d2 2;s1,2;s5,0;s3,2;l0 0 50;l2 1 50;n1;");
        wakeIs("0 has the nightmare now", b, 0, NONE, NONE);
        wakeIs("0 is woken", b, 1, 1, 1);
        wakeIs("it passes by itself", b, 2, 0, 0);
        wakeIs("far on", b, 200, 0, 0);
        wakeIs("another nightmare", Check.street("d2 2;s1,2;s5,0;s3,2;l0 0 50;l2 1 50;n0;"), 1, NONE, NONE);
        // If loaf 0 went to 0 when 1 is woken, 1 would do; but BEDS are as without those who are woken.
        wakeIs("beds stay", Check.street("d2 1;s3,3;s2,1;s0,2;l2 0 10;l1 1 50;n1;"), 3, 1, 4);
        CHECK.due("n 201", b.awake(201, 0), OUTSIDE);
        CHECK.due("n -1", b.awake(-1, 0), OUTSIDE);
        CHECK.due("what 2", b.awake(0, 2), OUTSIDE);
        CHECK.due("what -1", b.awake(0, -1), OUTSIDE);
        for (int strange : STRANGE) {
            CHECK.due("strange what", b.awake(1, strange), OUTSIDE);
        }
        CHECK.due("far too many nights", b.awake(Integer.MAX_VALUE, 0), OUTSIDE);
        wakeIs("nobody", Check.street("d2 0;"), 5, 0, 0);
    }

    private static void awakeOfLikeOnes() {
        String text = "d2 2;s1,2;s5,0;s3,0;s1,2;s5,0;l0 0 50;l3 0 50;l2 1 50;l2 1 50;n1;";
        SleptBread b = Check.street(text);
        wakeIs("0 or 3", b, 1, 1, 1);
        b.wake(0, true);
        wakeIs("0 is awake, no more", b, 1, 0, 0);
        b.wake(0, false);
        b.wake(3, true);
        wakeIs("3 is awake, no more", b, 1, 0, 0);
        // Each loaf alone brings the nightmare now: both must be woken.
        SleptBread both = Check.street(text.replace("s3,0;", "s1,0;").replace("d2 2", "d2 3"));
        wakeIs("0 and 3", both, 1, 2, 9);
        // 0 and 2 together would do, too: a lesser set, but of more.
        SleptBread fewer = Check.street("d3 3;s1,3,0;s3,5,5;s0,0,1;s3,1,2;l3 2 30;l2 2 10;l3 2 30;l2 1 20;l0 0 20;n0;");
        wakeIs("3 alone", fewer, 2, 1, 8);
    }

    private static void nothingChanges() {
        SleptBread b = Check.street(PLAIN);
        b.lay(0, 1);
        b.lay(1, 0);
        b.wake(2, true);
        b.seed(4711);
        b.beds(0);
        b.feedings(1, 1);
        b.foretold(0, 0, 100);
        b.settled();
        b.awake(100, 1);
        int[] weights = {1, 3, 2, 2, 3, 0};
        for (int i = 0; i < 6; i++) {
            CHECK.due("weight after trying", b.weight(i / 2, i % 2), weights[i]);
        }
        CHECK.due("loaves after trying", b.told(9), 3);
        CHECK.due("awake after trying", b.told(8), 4);
        CHECK.due("nights after trying", b.told(6), 0);
        CHECK.due("seed after trying", b.seed(0), 4711);
    }
}
