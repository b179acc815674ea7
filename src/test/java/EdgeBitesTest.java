import java.math.BigInteger;

/** Promises 22 to 28, at their boundaries: BITES, CRUMBS, HIRE, BREAD. */
final class EdgeBitesTest {
    private static final int NONE = SleptBread.NONE;
    private static final int UNKNOWN = SleptBread.UNKNOWN;
    private static final int OUTSIDE = SleptBread.OUTSIDE;
    private static final int FULL = SleptBread.FULL;
    private static final Check CHECK = new Check("EdgeBitesTest");
    private static final String SIX_ALIKE = "d2 1;s1,0;s1,0;s1,0;s1,0;s1,0;s1,0;";
    private static final BigInteger MILLION = BigInteger.valueOf(1000000);

    public static void main(String[] args) {
        eightBites();
        noBites();
        nobody();
        theLast();
        likeOnes();
        partsAreCut();
        partsCutToNothing();
        noCrumbs();
        mostCrumbs();
        tooManyCrumbs();
        crumbsOfNow();
        sureOfTheLast();
        hireNobody();
        hireBySecondBid();
        hireOfNow();
        oneToSevenBreads();
        noBread();
        breadIsSure();
        breadOfTheAwake();
        breadIsCut();
        CHECK.finish();
    }

    /** 'BITES (8 at most)', 'UNKNOWN, FULL (8)'. */
    private static void eightBites() {
        SleptBread b = Check.street("d5 0;s1,1,1,1,1;");
        for (int round = 0; round < 2; round++) {
            for (int i = 1; i <= 8; i++) {
                CHECK.due("bite " + i, b.bite(i % 5), i);
                CHECK.due("bites told", b.told(12), i);
            }
            CHECK.due("a ninth", b.bite(0), FULL);
            CHECK.due("a ninth of no dream", b.bite(5), UNKNOWN);
            CHECK.due("eight yet", b.told(12), 8);
            CHECK.due("torn", b.tear(), 8);
        }
        CHECK.due("the last dream", b.bite(4), 1);
        CHECK.due("no such dream", b.bite(5), UNKNOWN);
        CHECK.due("bites", b.told(12), 1);
        Check.feed(b, "d2 0;s1,0;");
        b.street();
        CHECK.due("no bites on a new street", b.told(12), 0);
        CHECK.due("dream 2 is none here", b.bite(2), UNKNOWN);
        CHECK.due("dream 1 is", b.bite(1), 1);
    }

    private static void whoIs(String name, SleptBread b, int set, int whose, int... likely) {
        CHECK.due(name + ": mayBe", b.mayBe(), set);
        CHECK.due(name + ": whose", b.whose(), whose);
        for (int s = 0; s < likely.length; s++) {
            CHECK.due(name + ": howLikely(" + s + ")", b.howLikely(s), likely[s]);
        }
        CHECK.due(name + ": one more", b.howLikely(likely.length), UNKNOWN);
        CHECK.due(name + ": NONE", b.howLikely(NONE), UNKNOWN);
    }

    /** 'one SLEEPER, all alike likely at first'. */
    private static void noBites() {
        whoIs("no dreams", new SleptBread(), 0, NONE);
        whoIs("no sleepers", Check.street("d2 0;"), 0, NONE);
        whoIs("one", Check.street("d2 0;s1,9;"), 1, 0, 1000000);
        whoIs("two", Check.street("d2 0;s1,9;s9,0;"), 3, 0, 500000, 500000);
        whoIs("six", Check.street(SIX_ALIKE), 63, 0, 166666, 166666, 166666, 166666, 166666, 166666);
    }

    /** '0, if that is 0'; WHOSE: NONE. */
    private static void nobody() {
        SleptBread b = Check.street("d3 0;s1,0,0;s0,1,0;");
        b.bite(2);
        whoIs("a dream of nobody", b, 0, NONE, 0, 0);
        b.tear();
        b.bite(0);
        whoIs("one of two", b, 1, 0, 1000000, 0);
        b.bite(1);
        whoIs("one bite of each", b, 0, NONE, 0, 0);
        b.bite(0);
        whoIs("it stays so", b, 0, NONE, 0, 0);
    }

    private static void theLast() {
        SleptBread b = Check.street("d2 0;s1,0;s1,0;s1,0;s1,0;s1,0;s1,1;");
        b.bite(1);
        whoIs("the last alone", b, 32, 5, 0, 0, 0, 0, 0, 1000000);
        for (int i = 0; i < 7; i++) {
            b.bite(1);
        }
        whoIs("the last alone, eight bites", b, 32, 5, 0, 0, 0, 0, 0, 1000000);
    }

    /** 'the likeliest; of like ones the least'. */
    private static void likeOnes() {
        SleptBread b = Check.street("d2 0;s1,3;s2,2;s3,3;s1,1;");
        b.bite(0);
        whoIs("1, 2 and 3 are alike", b, 15, 1, 142857, 285714, 285714, 285714);
        b.bite(1);
        whoIs("alike yet", b, 15, 1, 200000, 266666, 266666, 266666);
    }

    /** 'a thousand million at first, each cut': against numbers without bounds. */
    private static void partsAreCut() {
        int[][] w = {{1, 6, 2}, {6, 1, 4}, {3, 3, 5}, {9, 9, 9}, {7, 0, 1}, {1, 1, 9}};
        StringBuilder text = new StringBuilder("d3 0;");
        for (int[] row : w) {
            text.append('s').append(row[0]).append(',').append(row[1]).append(',').append(row[2]).append(';');
        }
        for (int run = 0; run < 81; run++) {
            SleptBread b = Check.street(text.toString());
            BigInteger[] parts = new BigInteger[6];
            java.util.Arrays.fill(parts, BigInteger.valueOf(1000000000L));
            int code = run * 81 + run;
            for (int i = 0; i < 8; i++) {
                int d = code % 3;
                code /= 3;
                b.bite(d);
                for (int s = 0; s < 6; s++) {
                    int all = w[s][0] + w[s][1] + w[s][2];
                    parts[s] = parts[s].multiply(BigInteger.valueOf(w[s][d])).divide(BigInteger.valueOf(all));
                }
                byParts(b, parts);
            }
        }
    }

    private static void byParts(SleptBread b, BigInteger[] parts) {
        BigInteger sum = BigInteger.ZERO;
        int best = 0;
        for (int s = 0; s < parts.length; s++) {
            sum = sum.add(parts[s]);
            best = parts[s].compareTo(parts[best]) > 0 ? s : best;
        }
        CHECK.due("whose by parts", b.whose(), best);
        for (int s = 0; s < parts.length; s++) {
            CHECK.due("part of " + s, b.howLikely(s), parts[s].multiply(MILLION).divide(sum).intValue());
        }
    }

    /** A part may be cut to 0 where its weights are not: it can be he, but he has no part in the sum. */
    private static void partsCutToNothing() {
        SleptBread b = Check.street("d5 0;s1,9,9,9,9;s0,1,0,0,0;");
        int[] parts = {27027027, 730460, 19742, 533, 14};
        for (int part : parts) {
            b.bite(0);
            whoIs("a part of " + part, b, 1, 0, 1000000, 0);
        }
        b.bite(0);
        whoIs("a part of nothing", b, 1, NONE, 0, 0);
        SleptBread two = Check.street("d5 0;s1,9,9,9,9;s1,1,0,0,0;");
        for (int i = 0; i < 8; i++) {
            two.bite(0);
        }
        whoIs("nothing beside 3906250", two, 3, 1, 0, 1000000);
    }

    /** No loaf is slept on: one way, that of none. */
    private static void noCrumbs() {
        CHECK.due("no dreams", new SleptBread().crumbs(NONE), 1);
        CHECK.due("no sleepers", Check.street("d2 0;").crumbs(NONE), 1);
        SleptBread b = Check.street(SIX_ALIKE + "l0 0 1;l1 0 1;");
        CHECK.due("none slept on", b.crumbs(NONE), 1);
        CHECK.due("the sleeper of a fresh one", b.crumbs(1), NONE);
        CHECK.due("no such loaf", b.crumbs(2), UNKNOWN);
        CHECK.due("below NONE", b.crumbs(-2), UNKNOWN);
        b.lay(0, 1);
        CHECK.due("on a pillow only", b.crumbs(NONE), 1);
        CHECK.due("the sleeper of one on a pillow", b.crumbs(0), NONE);
    }

    private static SleptBread slept(String loaves, int many) {
        SleptBread b = Check.street(SIX_ALIKE + loaves);
        for (int l = 0; l < many; l++) {
            b.lay(l, b.loaf(l, 0) == 1 ? 2 : 1);
            b.night(1);
        }
        return b;
    }

    private static void mostCrumbs() {
        int[] ways = {1, 5, 20, 60, 120, 120};
        for (int many = 0; many <= 5; many++) {
            SleptBread b = slept("l0 0 1;l0 0 1;l0 0 1;l0 0 1;l0 0 1;l0 0 1;l0 0 1;", many);
            CHECK.due("one eater, " + many, b.crumbs(NONE), ways[many]);
            CHECK.due("where is the first", b.crumbs(0), NONE);
        }
        int[] none = {1, 5, 21, 71, 181, 309, 265};
        for (int many = 0; many <= 6; many++) {
            SleptBread b = slept("l0 0 1;l1 0 1;l2 0 1;l3 0 1;l4 0 1;l5 0 1;", many);
            CHECK.due("six eaters, " + many, b.crumbs(NONE), none[many]);
        }
    }

    /** 'each of these was on another SLEEPER's pillow': more loaves than pillows fit nowhere. */
    private static void tooManyCrumbs() {
        for (int many = 6; many <= 7; many++) {
            SleptBread b = slept("l0 0 1;l0 0 1;l0 0 1;l0 0 1;l0 0 1;l0 0 1;l0 0 1;", many);
            CHECK.due("one eater, " + many, b.crumbs(NONE), 0);
            for (int l = 0; l < 7; l++) {
                CHECK.due("no way for " + l, b.crumbs(l), NONE);
            }
        }
        SleptBread b = slept("l0 0 1;l1 0 1;l2 0 1;l3 0 1;l4 0 1;l5 0 1;l0 0 1;", 7);
        CHECK.due("six eaters, seven loaves", b.crumbs(NONE), 0);
    }

    /** 'the WEIGHT there of what it TASTES of being above 0 now (AWAKE ones, too)'. */
    private static void crumbsOfNow() {
        SleptBread b = Check.street("d2 1;s1,0;s0,1;s1,0;l0 0 1;l2 0 1;");
        b.lay(0, 1);
        b.lay(1, 1);
        b.night(1);
        CHECK.due("by 1 alone", b.crumbs(NONE), 1);
        CHECK.due("surely by 1", b.crumbs(0), 1);
        b.lay(1, 1);
        b.night(1);
        CHECK.due("both by 1: no way", b.crumbs(NONE), 0);
        CHECK.due("no way for 0", b.crumbs(0), NONE);
        b.eat(1);
        CHECK.due("2 dreams so now: 1 or 2", b.crumbs(NONE), 2);
        CHECK.due("not the same", b.crumbs(0), NONE);
        b.wake(1, true);
        b.wake(2, true);
        CHECK.due("awake, too", b.crumbs(NONE), 2);
        b.salt(0);
        CHECK.due("salted, too", b.crumbs(NONE), 2);
        b.eat(0);
        CHECK.due("none left", b.crumbs(NONE), 1);
        CHECK.due("fresh", b.crumbs(0), NONE);
    }

    private static void sureOfTheLast() {
        SleptBread b = Check.street("d2 0;s1,0;s1,0;s1,0;s1,0;s1,0;s0,1;l0 1 1;l0 0 1;l1 0 1;l0 0 1;l0 0 1;l0 0 1;l2 1 1;");
        b.lay(6, 5);
        b.night(1);
        CHECK.due("the last loaf on the last pillow", b.crumbs(6), 5);
        for (int l = 1; l <= 5; l++) {
            b.lay(l, l == 2 ? 0 : l == 1 ? 1 : l - 1);
        }
        b.night(1);
        CHECK.due("loaves slept on", b.told(10), 126);
        CHECK.due("ways: loaf 2 on 0, four on four", b.crumbs(NONE), 24);
        CHECK.due("sure of 2", b.crumbs(2), 0);
        CHECK.due("sure of 6", b.crumbs(6), 5);
        CHECK.due("not sure of 1", b.crumbs(1), NONE);
        CHECK.due("0 is fresh", b.crumbs(0), NONE);
    }

    private static void hireIs(String name, SleptBread b, int s, int loaf, int price) {
        CHECK.due(name + ": loaf", b.hire(s, 0), loaf);
        CHECK.due(name + ": price", b.hire(s, 1), price);
    }

    /** 'above 0'; 'NONE'. */
    private static void hireNobody() {
        CHECK.due("no dreams", new SleptBread().hire(0, 0), UNKNOWN);
        CHECK.due("no dreams, what 2", new SleptBread().hire(0, 2), UNKNOWN);
        hireIs("no loaves", Check.street("d2 0;s1,0;"), 0, NONE, NONE);
        hireIs("his own alone", Check.street("d2 0;s1,0;l0 0 99;"), 0, NONE, NONE);
        hireIs("V 0", Check.street("d2 0;s1,0;s1,0;l1 0 0;"), 0, NONE, NONE);
        hireIs("W 0", Check.street("d2 0;s1,0;s1,0;l1 1 99;l1 1 98;"), 0, NONE, NONE);
        SleptBread b = Check.street("d2 0;s1,0;s1,0;l1 0 9;");
        CHECK.due("what 0", b.hire(0, 0), 0);
        CHECK.due("what 1", b.hire(0, 1), 0);
        CHECK.due("what -1", b.hire(0, -1), OUTSIDE);
        CHECK.due("what 2", b.hire(0, 2), OUTSIDE);
    }

    /** 'of like ones the least', 'pays the second bid (0, if there is none)'. */
    private static void hireBySecondBid() {
        hireIs("one bid", Check.street("d2 0;s1,0;s1,0;l1 0 9;"), 0, 0, 0);
        hireIs("a second of 0", Check.street("d2 0;s1,0;s1,0;l1 0 0;l1 0 9;"), 0, 1, 0);
        hireIs("like bids", Check.street("d2 0;s1,0;s1,0;l1 0 9;l1 0 9;"), 0, 0, 9000000);
        hireIs("three like bids", Check.street("d2 0;s1,0;s1,0;l1 0 8;l1 0 9;l1 0 9;l1 0 9;"), 0, 1, 9000000);
        hireIs("rising", Check.street("d2 0;s1,0;s1,0;l1 0 7;l1 0 8;l1 0 9;"), 0, 2, 8000000);
        hireIs("falling", Check.street("d2 0;s1,0;s1,0;l1 0 9;l1 0 8;l1 0 7;"), 0, 0, 8000000);
        hireIs("the second comes last", Check.street("d2 0;s1,0;s1,0;l1 0 9;l1 0 7;l1 0 8;"), 0, 0, 8000000);
        hireIs("his own does not bid", Check.street("d2 0;s1,0;s1,0;l0 0 99;l1 0 8;l0 0 98;l1 0 7;"), 0, 1, 7000000);
        hireIs("seven", Check.street("d2 0;s1,2;s1,0;l1 0 1;l1 0 2;l1 0 3;l1 0 4;l1 0 5;l1 0 98;l1 0 99;"), 0, 6,
            32666666);
        hireIs("the last sleeper", Check.street(SIX_ALIKE + "l5 0 99;l4 0 1;l4 0 2;"), 5, 2, 1000000);
    }

    /** 'LOAVES that are FRESH', on a pillow or not. */
    private static void hireOfNow() {
        SleptBread b = Check.street("d2 5;s1,0;s0,1;s1,0;l1 0 9;l1 0 5;l0 1 7;");
        b.lay(0, 2);
        hireIs("one lies elsewhere", b, 0, 0, 5000000);
        b.lay(1, 0);
        hireIs("one lies there", b, 0, 0, 5000000);
        b.wake(2, true);
        b.night(1);
        hireIs("one is slept on", b, 0, 0, 0);
        b.wake(2, false);
        b.night(1);
        hireIs("both are", b, 0, NONE, NONE);
        b.eat(1);
        hireIs("fresh again", b, 0, 1, 0);
        hireIs("he dreams otherwise now", b, 1, 2, 0);
        CHECK.due("his worth now", b.worth(2, 1), 1166666);
    }

    /** 'at least k LOAVES (1 .. 7)'. */
    private static void oneToSevenBreads() {
        SleptBread b = Check.street(SIX_ALIKE);
        for (int k = -1; k <= 9; k++) {
            CHECK.due("bread(" + k + ")", b.bread(k), k >= 1 && k <= 7 ? 0 : OUTSIDE);
        }
        CHECK.due("no dreams", new SleptBread().bread(7), 0);
        CHECK.due("no dreams, 8", new SleptBread().bread(8), OUTSIDE);
        CHECK.due("no dreams, 0", new SleptBread().bread(0), OUTSIDE);
    }

    private static void breadIs(String name, SleptBread b, int... due) {
        for (int k = 1; k <= 7; k++) {
            CHECK.due(name + ": bread(" + k + ")", b.bread(k), k <= due.length ? due[k - 1] : 0);
        }
    }

    /** 'of those on pillows': neither the free ones nor those that are slept on. */
    private static void noBread() {
        SleptBread b = Check.street(SIX_ALIKE + "l0 0 1;l1 0 1;l2 1 1;");
        breadIs("none lies", b);
        b.lay(2, 0);
        breadIs("it cannot taste so", b);
        b.lay(0, 1);
        breadIs("one can", b, 1000000);
        b.night(1);
        breadIs("both are slept on", b);
        b.lay(1, 3);
        breadIs("another one", b, 1000000);
        b.takeOff(1);
        breadIs("taken off", b);
    }

    private static void breadIsSure() {
        SleptBread b = Check.street(SIX_ALIKE + "l0 0 0;l1 0 0;l2 0 0;l3 0 0;l4 0 0;l5 0 0;l0 0 0;");
        int[] due = new int[6];
        for (int l = 0; l < 6; l++) {
            b.lay(l, (l + 1) % 6);
            due[l] = 1000000;
            breadIs((l + 1) + " lie", b, java.util.Arrays.copyOf(due, l + 1));
        }
    }

    /** 'tonight': who is awake does not sleep on it. */
    private static void breadOfTheAwake() {
        SleptBread b = Check.street("d2 0;s1,1;s1,3;s1,0;l2 0 1;l2 0 1;");
        b.lay(0, 0);
        b.lay(1, 1);
        breadIs("both", b, 625000, 125000);
        b.wake(1, true);
        breadIs("0 alone", b, 500000);
        b.wake(0, true);
        breadIs("nobody", b);
        b.wake(1, false);
        breadIs("1 alone", b, 250000);
    }

    /** 'LOAF by LOAF, what is there times WEIGHT of D / all WEIGHTS (cut) does, the rest does not'. */
    private static void breadIsCut() {
        int[][] w = {{1, 2}, {2, 5}, {3, 8}, {4, 9}, {1, 6}, {5, 8}};
        StringBuilder text = new StringBuilder("d2 0;");
        for (int[] row : w) {
            text.append('s').append(row[0]).append(',').append(row[1]).append(';');
        }
        SleptBread b = Check.street(text + "l1 0 1;l0 0 1;l1 0 1;l1 0 1;l1 0 1;l1 0 1;l1 0 1;");
        int[] pillow = {5, 1, 4, 0, 3, 2};
        BigInteger[] parts = new BigInteger[8];
        java.util.Arrays.fill(parts, BigInteger.ZERO);
        parts[0] = MILLION;
        for (int l = 5; l >= 0; l--) {
            b.lay(l, pillow[l]);
        }
        for (int l = 0; l < 6; l++) {
            int[] row = w[pillow[l]];
            BigInteger[] next = new BigInteger[8];
            java.util.Arrays.fill(next, BigInteger.ZERO);
            for (int many = 0; many < 7; many++) {
                BigInteger does = parts[many].multiply(BigInteger.valueOf(row[0])).divide(BigInteger.valueOf(row[0] + row[1]));
                next[many + 1] = next[many + 1].add(does);
                next[many] = next[many].add(parts[many].subtract(does));
            }
            parts = next;
        }
        int sum = 0;
        for (int k = 7; k >= 1; k--) {
            sum += parts[k].intValue();
            CHECK.due("six lie: bread(" + k + ")", b.bread(k), sum);
        }
    }
}
