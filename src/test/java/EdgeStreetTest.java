import java.math.BigInteger;

/** Chapter 2 of the terms and promises 1, 5 to 16, at their boundaries. */
final class EdgeStreetTest {
    private static final int NONE = SleptBread.NONE;
    private static final int UNKNOWN = SleptBread.UNKNOWN;
    private static final int NOT = SleptBread.NOT;
    private static final Check CHECK = new Check("EdgeStreetTest");
    private static final String WHOLE = "d5 1;s1,0,0,0,0;s0,1,0,0,0;s0,0,1,0,0;s0,0,0,1,0;s0,0,0,0,1;s9,9,9,9,9;"
        + "l0 4 99;l1 3 98;l2 2 97;l3 1 96;l4 0 95;l5 0 94;l0 1 0;n4;";
    private static final int[] SEEDS = {0, 1, 2, 65535, 65536, 12345, 1 << 30, Integer.MAX_VALUE - 1, Integer.MAX_VALUE};

    public static void main(String[] args) {
        theFullStreet();
        setsOfAll();
        setsOfLast();
        oddsInLowestTerms();
        likeliestOfLikeOnes();
        worthIsCut();
        onePillowOneLoaf();
        neverOnItsEater();
        takenOff();
        awakeFromNowOn();
        oneToThirtyNights();
        drawsWrapAround();
        firstDreamThatIsMore();
        nightsOneByOne();
        sleptOnOnce();
        awakeOnesDoNotDream();
        drawsByWeightsOfNow();
        nineAtMost();
        saltedIsNoHeavier();
        saltForThisTime();
        earnedAsWanted();
        freshAgain();
        CHECK.finish();
    }

    /** The last of all that there can be is known, the next is not. */
    private static void theFullStreet() {
        SleptBread b = Check.street(WHOLE);
        int[] due = {5, 1, 6, 7, 4, 0, 0, 0, 0, 0, 0, 0, 0, 0};
        for (int what = 0; what < due.length; what++) {
            CHECK.due("full street told(" + what + ")", b.told(what), due[what]);
        }
        CHECK.due("weight(5, 4)", b.weight(5, 4), 9);
        CHECK.due("weight(6, 4)", b.weight(6, 4), UNKNOWN);
        CHECK.due("weight(5, 5)", b.weight(5, 5), UNKNOWN);
        CHECK.due("odds(5, 4, 1)", b.odds(5, 4, 1), 5);
        CHECK.due("odds(6, 0, 1)", b.odds(6, 0, 1), UNKNOWN);
        CHECK.due("odds(5, 5, 1)", b.odds(5, 5, 1), UNKNOWN);
        CHECK.due("likeliest(5)", b.likeliest(5), 0);
        CHECK.due("likeliest(6)", b.likeliest(6), UNKNOWN);
        CHECK.due("loaf(6, 1)", b.loaf(6, 1), 1);
        CHECK.due("loaf(7, 1)", b.loaf(7, 1), UNKNOWN);
        CHECK.due("worth(6, 5)", b.worth(6, 5), 0);
        CHECK.due("worth(7, 5)", b.worth(7, 5), UNKNOWN);
        CHECK.due("worth(6, 6)", b.worth(6, 6), UNKNOWN);
        CHECK.due("lay(6, 6)", b.lay(6, 6), UNKNOWN);
        CHECK.due("lay(7, 5)", b.lay(7, 5), UNKNOWN);
        CHECK.due("takeOff(7)", b.takeOff(7), UNKNOWN);
        CHECK.due("wake(6, true)", b.wake(6, true), UNKNOWN);
        CHECK.due("eat(7)", b.eat(7), UNKNOWN);
        CHECK.due("salt(7)", b.salt(7), UNKNOWN);
        CHECK.due("salt(6)", b.salt(6), 0);
    }

    /** 'A SET is a whole number, bit k for k'. */
    private static void setsOfAll() {
        SleptBread b = Check.street(WHOLE);
        int set = 0;
        for (int l = 0; l < 6; l++) {
            set |= 1 << l;
            CHECK.due("laid " + l, b.lay(l, (l + 1) % 6), set);
        }
        CHECK.due("no pillow for the seventh", b.lay(6, 1), NOT);
        CHECK.due("on pillows", b.told(9), 63);
        CHECK.due("slept on by all", b.night(1), 63);
        CHECK.due("none on pillows", b.told(9), 0);
        CHECK.due("the seventh alone", b.lay(6, 1), 64);
        CHECK.due("all seven", b.night(1), 127);
        CHECK.due("all seven told", b.told(10), 127);
        for (int l = 0; l < 7; l++) {
            b.salt(l);
        }
        CHECK.due("all salted", b.told(11), 127);
        for (int s = 0; s < 6; s++) {
            b.wake(s, true);
        }
        CHECK.due("all awake", b.told(8), 63);
        for (int l = 0; l < 7; l++) {
            b.eat(l);
        }
        CHECK.due("none slept on", b.told(10), 0);
        CHECK.due("none salted", b.told(11), 0);
    }

    private static void setsOfLast() {
        SleptBread b = Check.street(WHOLE);
        CHECK.due("the last loaf lies", b.lay(6, 5), 64);
        b.salt(6);
        CHECK.due("the last is salted", b.told(11), 64);
        b.wake(5, true);
        CHECK.due("the last is awake", b.told(8), 32);
        CHECK.due("its pillow", b.loaf(6, 3), 5);
        CHECK.due("he is awake: nothing", b.night(1), 0);
        b.wake(5, false);
        CHECK.due("he sleeps", b.night(1), 64);
    }

    /** 'Parts are in lowest terms, below 1 or more (0 of 1)': all pairs of weights. */
    private static void oddsInLowestTerms() {
        for (int x = 0; x <= 9; x++) {
            for (int y = x == 0 ? 1 : 0; y <= 9; y++) {
                SleptBread b = Check.street("d2 0;s" + x + "," + y + ";");
                int shared = BigInteger.valueOf(x).gcd(BigInteger.valueOf(x + y)).intValue();
                CHECK.due("odds above " + x + " of " + (x + y), b.odds(0, 0, 0), x / shared);
                CHECK.due("odds below " + x + " of " + (x + y), b.odds(0, 0, 1), (x + y) / shared);
            }
        }
    }

    /** 'the DREAM of most WEIGHT; of like ones the least'. */
    private static void likeliestOfLikeOnes() {
        for (int i = 1; i < 1000; i += 3) {
            int[] w = {i / 100, i / 10 % 10, i % 10};
            SleptBread b = Check.street("d3 0;s" + w[0] + "," + w[1] + "," + w[2] + ";");
            int due = w[0] >= w[1] && w[0] >= w[2] ? 0 : w[1] >= w[2] ? 1 : 2;
            CHECK.due("likeliest of " + i, b.likeliest(0), due);
        }
    }

    /** 'a million times V times his WEIGHT of D / all WEIGHTS of his (cut)'. */
    private static void worthIsCut() {
        for (int x = 0; x <= 9; x++) {
            for (int y = x == 0 ? 1 : 0; y <= 9; y++) {
                SleptBread b = Check.street("d2 0;s1,1;s" + x + "," + y + ";l0 0 0;l0 0 1;l0 0 7;l0 0 50;l0 0 99;");
                int[] values = {0, 1, 7, 50, 99};
                for (int l = 0; l < values.length; l++) {
                    long due = 1000000L * values[l] * x / (x + y);
                    CHECK.due("worth " + values[l] + " by " + x + " of " + (x + y), b.worth(l, 1), due);
                }
            }
        }
        SleptBread b = Check.street("d5 0;s9,9,9,9,9;s1,1,1,1,1;l1 3 99;l0 3 99;");
        CHECK.due("the heaviest", b.worth(0, 0), 19800000);
        CHECK.due("the lightest", b.worth(1, 1), 19800000);
        CHECK.due("nobody sleeps on what he will eat", b.worth(0, 1), NOT);
    }

    /** 'on a SLEEPER's pillow (one at most on each)'. */
    private static void onePillowOneLoaf() {
        SleptBread b = Check.street("d2 0;s1,1;s1,1;s1,1;l0 0 1;l0 0 1;l0 0 1;");
        CHECK.due("the first there", b.lay(1, 2), 2);
        CHECK.due("a lesser loaf, too", b.lay(0, 2), NOT);
        CHECK.due("a greater loaf, too", b.lay(2, 2), NOT);
        CHECK.due("on another", b.lay(2, 1), 6);
        CHECK.due("the same again", b.lay(2, 1), NOT);
        CHECK.due("it lies already", b.lay(1, 1), NOT);
        b.takeOff(1);
        CHECK.due("there is room", b.lay(0, 2), 5);
        b.night(1);
        CHECK.due("slept on is no longer there", b.lay(1, 2), 2);
    }

    /** 'never on its eater's'. */
    private static void neverOnItsEater() {
        SleptBread b = Check.street(WHOLE);
        int[] eaters = {0, 1, 2, 3, 4, 5, 0};
        for (int l = 0; l < 7; l++) {
            CHECK.due("own bed of " + l, b.lay(l, eaters[l]), NOT);
        }
        CHECK.due("nothing lies", b.told(9), 0);
        CHECK.due("one alone has no bed for his own", Check.street("d2 0;s1,1;l0 0 1;").lay(0, 0), NOT);
    }

    private static void takenOff() {
        SleptBread b = Check.street(WHOLE);
        b.lay(1, 0);
        b.lay(6, 5);
        CHECK.due("off the first pillow", b.takeOff(1), 0);
        CHECK.due("off the last pillow", b.takeOff(6), 5);
        CHECK.due("on none now", b.takeOff(6), NOT);
        CHECK.due("none lies", b.told(9), 0);
        CHECK.due("fresh yet", b.loaf(6, 4), NONE);
        CHECK.due("no night, nothing slept on", b.told(10), 0);
        b.lay(6, 4);
        CHECK.due("on another pillow", b.loaf(6, 3), 4);
    }

    private static void awakeFromNowOn() {
        SleptBread b = Check.street(WHOLE);
        for (int s = 0; s < 6; s++) {
            CHECK.due("slept " + s, b.wake(s, false), 0);
            CHECK.due("sleeps " + s, b.wake(s, true), 0);
            CHECK.due("awake " + s, b.wake(s, true), 1);
            CHECK.due("who is awake " + s, b.told(8), 1 << s);
            b.night(1);
            CHECK.due("awake behind a night, too", b.wake(s, false), 1);
            CHECK.due("asleep " + s, b.wake(s, false), 0);
        }
        CHECK.due("nobody is awake", b.told(8), 0);
    }

    /** 'n NIGHTS (1 .. 30)', 'NIGHTS are counted'. */
    private static void oneToThirtyNights() {
        SleptBread b = Check.street("d2 0;s1,1;");
        int sum = 0;
        for (int n = -1; n <= 32; n++) {
            boolean may = n >= 1 && n <= 30;
            CHECK.due("night(" + n + ")", b.night(n), may ? 0 : SleptBread.OUTSIDE);
            sum += may ? n : 0;
            CHECK.due("nights behind night(" + n + ")", b.told(6), sum);
        }
        CHECK.due("all of them", b.told(6), 465);
    }

    private static int next(int seed) {
        BigInteger drawn = BigInteger.valueOf(seed).multiply(BigInteger.valueOf(1103515245)).add(BigInteger.valueOf(12345));
        return drawn.mod(BigInteger.ONE.shiftLeft(31)).intValue();
    }

    /** 'it times 1103515245 and 12345, left over by 2 to the 31'. */
    private static void drawsWrapAround() {
        for (int seed : SEEDS) {
            SleptBread b = Check.street("d2 0;s1,1;");
            b.seed(seed);
            int due = seed;
            for (int i = 0; i < 100; i++) {
                b.night(1);
                due = next(due);
                CHECK.due("draw " + i + " from " + seed, b.seed(due), due);
                CHECK.holds("it stays within its bounds", due >= 0);
            }
        }
    }

    /** 'the first DREAM by which WEIGHTS to it, together, are more than it'. */
    private static void firstDreamThatIsMore() {
        int[][] rows = {{1, 2, 3, 4}, {0, 0, 0, 1}, {1, 0, 0, 0}, {9, 9, 9, 9}, {0, 5, 0, 5}, {1, 1, 1, 1}, {9, 0, 0, 1}};
        for (int[] w : rows) {
            int all = w[0] + w[1] + w[2] + w[3];
            SleptBread b = Check.street("d4 0;s" + w[0] + "," + w[1] + "," + w[2] + "," + w[3] + ";s1,1,1,1;l1 0 1;");
            b.wake(1, true);
            int seed = 0;
            for (int i = 0; i < 60; i++) {
                seed = next(seed);
                int left = seed / 65536 % all;
                int due = 0;
                while (left >= w[due]) {
                    left -= w[due];
                    due++;
                }
                b.lay(0, 0);
                b.night(1);
                CHECK.due("dream by draw " + i + " of " + all, b.loaf(0, 4), due);
                b.eat(0);
            }
        }
    }

    /** n nights are one night n times. */
    private static void nightsOneByOne() {
        SleptBread together = Check.street(WHOLE);
        SleptBread apart = Check.street(WHOLE);
        for (SleptBread b : new SleptBread[] {together, apart}) {
            b.seed(99);
            b.lay(0, 5);
            b.lay(6, 3);
            b.wake(3, true);
        }
        together.night(30);
        for (int i = 0; i < 30; i++) {
            apart.night(1);
        }
        CHECK.holds("thirty nights at once", Seen.of(together).equals(Seen.of(apart)));
    }

    /** A loaf is on no pillow any more: the second night leaves its taste. */
    private static void sleptOnOnce() {
        SleptBread b = Check.street("d5 0;s1,1,1,1,1;s1,1,1,1,1;l1 0 1;l0 0 1;");
        b.lay(0, 0);
        b.night(1);
        int taste = b.loaf(0, 4);
        for (int i = 0; i < 20; i++) {
            CHECK.due("slept on yet", b.night(1 + i), 1);
            CHECK.due("it tastes as it did", b.loaf(0, 4), taste);
            CHECK.due("it is on no pillow", b.loaf(0, 3), NONE);
        }
    }

    /** 'SLEEPER by SLEEPER (if he is not AWAKE) a DRAW': who is awake takes none. */
    private static void awakeOnesDoNotDream() {
        for (int set = 0; set < 64; set++) {
            SleptBread b = Check.street(WHOLE);
            for (int s = 0; s < 6; s++) {
                b.lay(s == 0 ? 5 : s - 1, s);
                b.wake(s, (set >> s & 1) == 1);
            }
            int seed = 0;
            for (int i = 0; i < 6 - Integer.bitCount(set); i++) {
                seed = next(seed);
            }
            int asleep = ~set & 63;
            int due = (asleep >> 1 | asleep << 5) & 63;
            CHECK.due("slept on, awake " + set, b.night(1), due);
            CHECK.due("on pillows, awake " + set, b.told(9), ~due & 63);
            CHECK.due("draws, awake " + set, b.seed(0), seed);
        }
    }

    /** A draw is of all weights as they are that night. */
    private static void drawsByWeightsOfNow() {
        SleptBread b = Check.street("d2 5;s9,0;s0,1;l0 0 1;l1 0 1;");
        int due = 0;
        for (int i = 0; i < 50; i++) {
            b.lay(1, 0);
            b.wake(1, true);
            b.seed(1000 + i * 7919);
            due = next(1000 + i * 7919) / 65536 % (i == 0 ? 9 : i == 1 ? 14 : 18) >= 9 ? 1 : 0;
            b.night(1);
            CHECK.due("dream by weights of night " + i, b.loaf(1, 4), due);
            b.salt(1);
            b.eat(1);
            b.wake(1, false);
            b.wake(0, true);
            b.lay(0, 1);
            b.night(1);
            b.eat(0);
            b.wake(0, false);
        }
    }

    /** 'its eater's WEIGHT of what it TASTES of is G more (9 at most)'. */
    private static void nineAtMost() {
        for (int g = 0; g <= 5; g++) {
            for (int w = 0; w <= 9; w++) {
                SleptBread b = Check.street("d2 " + g + ";s1," + w + ";s0,1;l0 0 1;");
                b.lay(0, 1);
                b.night(1);
                b.eat(0);
                CHECK.due(w + " and " + g, b.weight(0, 1), Math.min(9, w + g));
                CHECK.due("the other dream", b.weight(0, 0), 1);
                CHECK.due("who slept on it", b.weight(1, 1), 1);
            }
        }
    }

    /** 'if it is not SALTED'. */
    private static void saltedIsNoHeavier() {
        for (int g = 0; g <= 5; g++) {
            for (int when = 0; when < 3; when++) {
                SleptBread b = Check.street("d2 " + g + ";s1,3;s0,1;l0 1 17;l0 1 17;");
                saltAt(b, when, 0);
                b.lay(0, 1);
                saltAt(b, when, 1);
                b.night(1);
                saltAt(b, when, 2);
                CHECK.due("earned salted", b.eat(0), 17);
                CHECK.due("weight, salted at " + when, b.weight(0, 1), 3);
                b.lay(1, 1);
                b.night(1);
                b.eat(1);
                CHECK.due("another loaf is not salted", b.weight(0, 1), 3 + g);
            }
        }
    }

    private static void saltAt(SleptBread b, int when, int step) {
        if (when == step) {
            b.salt(0);
        }
    }

    /** 'A LOAF is SALTED (for this time): 1 it was, 0 not': till it is eaten, not longer. */
    private static void saltForThisTime() {
        SleptBread b = Check.street(WHOLE);
        CHECK.due("fresh", b.salt(6), 0);
        b.lay(6, 5);
        CHECK.due("on a pillow", b.salt(6), 1);
        b.takeOff(6);
        CHECK.due("taken off", b.salt(6), 1);
        b.lay(6, 4);
        b.night(30);
        CHECK.due("slept on", b.salt(6), 1);
        CHECK.due("that one alone", b.told(11), 64);
        b.eat(6);
        CHECK.due("eaten", b.loaf(6, 5), 0);
        CHECK.due("none", b.told(11), 0);
        CHECK.due("anew", b.salt(6), 0);
        CHECK.due("other loaves", b.salt(5), 0);
    }

    /** 'EARNED is V of all that were EATEN and TASTED as wanted'. */
    private static void earnedAsWanted() {
        SleptBread b = Check.street("d2 0;s1,0;s0,1;s1,0;l2 0 99;l2 1 50;l2 0 0;");
        int[][] rows = {{0, 0, 99}, {0, 1, 99}, {1, 0, 99}, {1, 1, 149}, {2, 0, 149}, {2, 1, 149}, {0, 0, 248}};
        for (int[] row : rows) {
            b.lay(row[0], row[1]);
            b.night(1);
            CHECK.due("not earned till it is eaten", b.told(7) <= row[2] ? 1 : 0, 1);
            CHECK.due("loaf " + row[0] + " on " + row[1], b.eat(row[0]), row[2]);
            CHECK.due("told so", b.told(7), row[2]);
        }
        b.lay(0, 0);
        b.night(1);
        CHECK.due("slept on earns nothing yet", b.told(7), 248);
        b.salt(0);
        CHECK.due("salted earns, too", b.eat(0), 347);
    }

    /** 'then it is FRESH again'. */
    private static void freshAgain() {
        SleptBread b = Check.street("d2 1;s1,0;s0,1;l0 1 5;");
        CHECK.due("fresh at first", b.loaf(0, 4), NONE);
        for (int i = 1; i <= 10; i++) {
            CHECK.due("fresh", b.eat(0), NOT);
            CHECK.due("laid", b.lay(0, 1), 1);
            CHECK.due("not slept on", b.eat(0), NOT);
            CHECK.due("slept on", b.night(1), 1);
            CHECK.due("tastes", b.loaf(0, 4), 1);
            CHECK.due("not laid again", b.lay(0, 1), NOT);
            CHECK.due("eaten", b.eat(0), 5 * i);
            CHECK.due("on no pillow", b.loaf(0, 3), NONE);
            CHECK.due("weight", b.weight(0, 1), Math.min(9, i));
        }
    }
}
