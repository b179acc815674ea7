/** Promises 17 to 21, at their boundaries: BEDS, FEED, FORETOLD, SETTLED, WAKE. */
final class EdgeTriedTest {
    private static final int NONE = SleptBread.NONE;
    private static final Check CHECK = new Check("EdgeTriedTest");
    private static final String SIX_ALIKE = "d2 0;s1,0;s1,0;s1,0;s1,0;s1,0;s1,0;";

    public static void main(String[] args) {
        emptyBeds();
        fullBeds();
        bedsOfNothing();
        bedsOfTheAwake();
        bedsAsIfNoneLay();
        bedsOfLikeOnes();
        bedsOfCutWorth();
        bedsOfNow();
        fewestLoaves();
        fewestLoavesOfFive();
        noNights();
        twoHundredNights();
        byWeightsInTheEvening();
        noneSalted();
        sleptOnIsLeftAlone();
        settledAtOnce();
        settledWhenNothingChanges();
        settledLate();
        wakeNobody();
        wakeTheLast();
        wakeWithoutNights();
        nightmareUntold();
        wakeCannotHelp();
        awakeOnesCountToo();
        fewestAheadOfLeast();
        CHECK.finish();
    }

    private static void bedsAre(String name, SleptBread b, int most, int... where) {
        CHECK.due(name + ": how much", b.beds(NONE), most);
        for (int l = 0; l < where.length; l++) {
            CHECK.due(name + ": loaf " + l, b.beds(l), where[l]);
        }
        CHECK.due(name + ": no more loaves", b.beds(where.length), SleptBread.UNKNOWN);
    }

    private static void emptyBeds() {
        bedsAre("no dreams", new SleptBread(), 0);
        bedsAre("no sleepers", Check.street("d2 0;"), 0);
        bedsAre("no loaves", Check.street(SIX_ALIKE), 0);
        bedsAre("one alone", Check.street("d2 0;s1,0;l0 0 99;l0 0 99;"), 0, NONE, NONE);
    }

    private static void fullBeds() {
        bedsAre("six for six", Check.street(SIX_ALIKE + "l0 0 99;l1 0 99;l2 0 99;l3 0 99;l4 0 99;l5 0 99;"),
            594000000, 1, 0, 3, 2, 5, 4);
        bedsAre("seven for five", Check.street(SIX_ALIKE + "l0 0 5;l0 0 5;l0 0 5;l0 0 5;l0 0 5;l0 0 5;l0 0 5;"),
            25000000, NONE, NONE, 1, 2, 3, 4, 5);
        bedsAre("seven, one by one dearer",
            Check.street(SIX_ALIKE + "l0 0 1;l0 0 2;l0 0 3;l0 0 4;l0 0 5;l0 0 6;l0 0 7;"),
            25000000, NONE, NONE, 1, 2, 3, 4, 5);
        bedsAre("seven, one by one cheaper",
            Check.street(SIX_ALIKE + "l5 0 7;l5 0 6;l5 0 5;l5 0 4;l5 0 3;l5 0 2;l5 0 1;"),
            25000000, 0, 1, 2, 3, 4, NONE, NONE);
        bedsAre("the last loaf has the last bed", Check.street(
            "d2 0;s1,0;s1,0;s1,0;s1,0;s1,0;s0,1;l0 0 9;l1 0 9;l2 0 9;l3 0 9;l4 0 9;l0 1 0;l0 1 9;"),
            54000000, 1, 0, 3, 4, 2, NONE, 5);
    }

    /** What is worth nothing lies on no pillow: 'on no pillow ahead of the lesser SLEEPER'. */
    private static void bedsOfNothing() {
        bedsAre("V 0", Check.street("d2 0;s1,0;s1,0;l0 0 0;l1 0 0;"), 0, NONE, NONE);
        bedsAre("W 0", Check.street("d2 0;s1,0;s1,0;l0 1 99;l1 1 99;"), 0, NONE, NONE);
        bedsAre("one of two", Check.street("d2 0;s1,0;s1,0;l0 1 99;l1 0 1;"), 1000000, NONE, 0);
        bedsAre("the least worth lies", Check.street("d5 0;s1,9,9,9,9;s1,0,0,0,0;l1 0 1;"), 27027, 0);
    }

    /** 'SLEEPERS who are not AWAKE'. */
    private static void bedsOfTheAwake() {
        String text = SIX_ALIKE + "l0 0 50;l0 0 40;";
        SleptBread b = Check.street(text);
        bedsAre("nobody awake", b, 90000000, 1, 2);
        b.wake(1, true);
        bedsAre("1 awake", b, 90000000, 2, 3);
        for (int s = 2; s < 5; s++) {
            b.wake(s, true);
        }
        bedsAre("5 alone sleeps", b, 50000000, 5, NONE);
        b.wake(5, true);
        bedsAre("nobody but their eater", b, 0, NONE, NONE);
        b.wake(0, true);
        bedsAre("nobody", b, 0, NONE, NONE);
        b.wake(4, false);
        bedsAre("4 alone sleeps", b, 50000000, 4, NONE);
    }

    /** 'as if none lay yet'. */
    private static void bedsAsIfNoneLay() {
        SleptBread b = Check.street("d2 0;s1,0;s1,1;s0,1;l2 0 50;l2 1 40;");
        bedsAre("none lies", b, 70000000, 0, 1);
        b.lay(1, 0);
        bedsAre("one lies elsewhere", b, 70000000, 0, 1);
        b.lay(0, 1);
        bedsAre("both lie elsewhere", b, 70000000, 0, 1);
        b.wake(0, true);
        bedsAre("one lies on an awake one", b, 25000000, 1, NONE);
    }

    /** 'of like ones the first (LOAF by LOAF ..)': the first loaf's place counts most. */
    private static void bedsOfLikeOnes() {
        bedsAre("the lesser pillow for loaf 0", Check.street("d2 0;s1,0;s1,0;s1,0;l2 0 7;l2 0 7;"), 14000000, 0, 1);
        bedsAre("loaf 0 gives way", Check.street("d2 0;s1,0;s0,1;s0,1;l1 0 7;l2 0 7;"), 7000000, NONE, 0);
        bedsAre("its eater's goes by", Check.street("d2 0;s1,0;s1,0;s1,0;l0 0 7;l2 0 7;"), 14000000, 1, 0);
        bedsAre("half and half or all and none",
            Check.street("d2 0;s2,0;s1,1;s0,1;l2 0 10;l2 0 20;"), 25000000, 1, 0);
        bedsAre("a like sum in two ways",
            Check.street("d2 0;s1,1;s1,0;s0,1;l2 0 20;l2 0 20;"), 30000000, 0, 1);
    }

    /** The worth of each is cut, and those are put together. */
    private static void bedsOfCutWorth() {
        bedsAre("two thirds of cut thirds", Check.street("d2 0;s1,2;s1,2;s0,1;l2 0 1;l2 0 1;"), 666666, 0, 1);
        // Uncut both ways would be like: two thirds and a third, or a half and a half.
        bedsAre("by a cut millionth", Check.street("d3 0;s8,3,1;s3,1,2;s0,0,1;l2 0 1;l2 1 2;"), 1000000, 1, 0);
        bedsAre("sevenths", Check.street("d2 0;s3,4;s5,2;s0,1;l2 0 99;l2 1 99;"), 70714285 + 56571428, 1, 0);
    }

    private static void bedsOfNow() {
        SleptBread b = Check.street("d2 5;s1,0;s0,1;s1,1;l0 1 9;l2 0 9;");
        bedsAre("at first", b, 18000000, 1, 0);
        b.lay(0, 1);
        b.night(1);
        bedsAre("slept on has no bed", b, 9000000, NONE, 0);
        b.eat(0);
        bedsAre("fresh again, 0 dreams otherwise", b, 10500000, 1, 0);
        b.lay(0, 1);
        b.lay(1, 0);
        b.night(1);
        bedsAre("all are slept on", b, 0, NONE, NONE);
    }

    /** 'the fewest LOAVES of a DREAM (G more each, 9 at most) by which it is a SLEEPER's LIKELIEST; NONE'. */
    private static void fewestLoaves() {
        for (int g = 0; g <= 5; g++) {
            for (int x = 0; x <= 9; x++) {
                for (int y = x == 0 ? 1 : 0; y <= 9; y++) {
                    SleptBread b = Check.street("d2 " + g + ";s" + x + "," + y + ";");
                    CHECK.due("dream 0 of " + x + "," + y + " by " + g, b.feedings(0, 0), loaves(x, y, g));
                    CHECK.due("dream 1 of " + x + "," + y + " by " + g, b.feedings(0, 1), loaves(y, x + 1, g));
                }
            }
        }
    }

    private static int loaves(int from, int to, int gain) {
        for (int many = 0; many < 20; many++) {
            if (Math.min(9, from + many * gain) >= to) {
                return many;
            }
        }
        return NONE;
    }

    private static void fewestLoavesOfFive() {
        SleptBread b = Check.street("d5 1;s9,0,0,0,0;s0,0,0,0,9;s8,0,8,0,8;s1,1,1,1,1;s0,0,0,0,1;s0,1,0,0,0;");
        int[][] due = {{0, NONE, NONE, NONE, NONE}, {9, 9, 9, 9, 0}, {0, 9, 1, 9, 1}, {0, 1, 1, 1, 1}, {1, 1, 1, 1, 0},
            {1, 0, 2, 2, 2}};
        for (int s = 0; s < 6; s++) {
            for (int d = 0; d < 5; d++) {
                CHECK.due("feedings(" + s + ", " + d + ")", b.feedings(s, d), due[s][d]);
            }
        }
    }

    /** 'FORETOLD n NIGHTS (0 .. 200)': behind none all is as now. */
    private static void noNights() {
        SleptBread b = Check.street("d3 5;s2,1,4;s1,2,0;l0 1 9;l1 0 9;");
        for (int s = 0; s < 2; s++) {
            CHECK.due("likeliest now", b.foretold(s, NONE, 0), b.likeliest(s));
            for (int d = 0; d < 3; d++) {
                CHECK.due("weight now", b.foretold(s, d, 0), b.weight(s, d));
            }
        }
    }

    private static void twoHundredNights() {
        SleptBread b = Check.street("d2 1;s0,9;s1,0;l0 0 9;");
        for (int n = 0; n <= 200; n++) {
            CHECK.due("weight behind " + n, b.foretold(0, 0, n), Math.min(9, n));
            CHECK.due("likeliest behind " + n, b.foretold(0, NONE, n), n >= 9 ? 0 : 1);
        }
        CHECK.due("201", b.foretold(0, 0, 201), SleptBread.OUTSIDE);
        CHECK.due("-1", b.foretold(0, 0, -1), SleptBread.OUTSIDE);
        CHECK.due("200 for whom nothing is baked", b.foretold(1, 0, 200), 1);
    }

    /** 'by WEIGHTS in the evening': two who eat of each other's dreams. */
    private static void byWeightsInTheEvening() {
        SleptBread b = Check.street("d2 5;s2,1;s1,2;l0 1 9;l1 0 9;");
        int[][] due = {{2, 1, 1, 2}, {2, 6, 6, 2}, {7, 6, 6, 7}, {7, 9, 9, 7}, {9, 9, 9, 9}, {9, 9, 9, 9}};
        for (int n = 0; n < due.length; n++) {
            for (int i = 0; i < 4; i++) {
                CHECK.due("behind " + n + " row " + i, b.foretold(i / 2, i % 2, n), due[n][i]);
            }
        }
        CHECK.due("likeliest of 0 behind 1", b.foretold(0, NONE, 1), 1);
        CHECK.due("likeliest of 1 behind 1", b.foretold(1, NONE, 1), 0);
        CHECK.due("settled behind 4", b.settled(), 4);
    }

    /** 'all are EATEN in the morning, none SALTED'; what is so now is not touched. */
    private static void noneSalted() {
        SleptBread b = Check.street("d2 3;s1,0;s0,1;l0 1 9;");
        b.salt(0);
        CHECK.due("salted now", b.foretold(0, 1, 1), 3);
        CHECK.due("behind two", b.foretold(0, 1, 2), 6);
        CHECK.due("behind three", b.foretold(0, 1, 3), 9);
        CHECK.due("behind four", b.foretold(0, 1, 4), 9);
        CHECK.due("salted yet", b.loaf(0, 5), 1);
        CHECK.due("fresh yet", b.loaf(0, 4), NONE);
        CHECK.due("nothing earned", b.told(7), 0);
        CHECK.due("no nights", b.told(6), 0);
    }

    private static void sleptOnIsLeftAlone() {
        SleptBread b = Check.street("d2 3;s1,0;s0,1;l0 1 9;");
        b.lay(0, 1);
        b.night(1);
        CHECK.due("it has no bed", b.foretold(0, 1, 200), 0);
        CHECK.due("all settled", b.settled(), 0);
        b.eat(0);
        CHECK.due("it has one", b.foretold(0, 1, 1), 6);
        CHECK.due("settles", b.settled(), 2);
    }

    /** 'the fewest NIGHTS (0 .. 200) behind which one more changes no WEIGHT'. */
    private static void settledAtOnce() {
        CHECK.due("no dreams", new SleptBread().settled(), 0);
        CHECK.due("no sleepers", Check.street("d2 5;").settled(), 0);
        CHECK.due("G 0", Check.street("d2 0;s1,0;s0,1;l0 1 9;").settled(), 0);
        CHECK.due("nine", Check.street("d2 5;s1,9;s0,1;l0 1 9;").settled(), 0);
        CHECK.due("eight", Check.street("d2 5;s1,8;s0,1;l0 1 9;").settled(), 1);
        CHECK.due("worth nothing", Check.street("d2 5;s1,0;s0,1;l0 1 0;").settled(), 0);
    }

    private static void settledWhenNothingChanges() {
        for (int g = 1; g <= 5; g++) {
            for (int w = 0; w <= 9; w++) {
                SleptBread b = Check.street("d2 " + g + ";s1," + w + ";s0,1;l0 1 9;");
                CHECK.due("from " + w + " by " + g, b.settled(), (9 - w + g - 1) / g);
            }
        }
        // 1 comes to dream 0 behind three nights, and then his loaf's eater grows anew.
        SleptBread later = Check.street("d2 3;s0,1;s1,9;s1,0;l0 1 9;l1 0 9;");
        CHECK.due("his bed", later.beds(0), 1);
        CHECK.due("behind three", later.foretold(0, 1, 3), 9);
        CHECK.due("he dreams 0", later.foretold(1, NONE, 3), 0);
        CHECK.due("anew", later.foretold(0, 0, 4), 3);
        CHECK.due("settled late", later.settled(), 6);
    }

    /** The latest that a search by chance found: none came near 200, so NONE is not shown here. */
    private static void settledLate() {
        SleptBread b = Check.street("d5 1;s0,3,4,4,5;s0,7,9,8,6;s0,5,6,7,6;s0,7,4,3,5;s0,6,3,1,3;s3,0,2,0,0;"
            + "l4 1 57;l5 3 88;l0 0 29;l3 4 10;l2 4 48;l0 1 58;l1 0 53;");
        CHECK.due("settled", b.settled(), 51);
        int last = 0;
        int later = 0;
        for (int i = 0; i < 30; i++) {
            last += b.foretold(i / 5, i % 5, 51) - b.foretold(i / 5, i % 5, 50);
            later += b.foretold(i / 5, i % 5, 200) - b.foretold(i / 5, i % 5, 51);
        }
        CHECK.holds("the last night changes", last > 0);
        CHECK.due("later ones do not", later, 0);
    }

    private static void wakeIs(String name, SleptBread b, int n, int many, int set) {
        CHECK.due(name + ": how many", b.awake(n, 0), many);
        CHECK.due(name + ": the set", b.awake(n, 1), set);
    }

    private static void wakeNobody() {
        for (int n : new int[] {0, 1, 199, 200}) {
            wakeIs("no dreams", new SleptBread(), n, 0, 0);
            wakeIs("no sleepers", Check.street("d2 5;n1;"), n, 0, 0);
            wakeIs("none dreams it", Check.street("d2 5;s1,0;s2,1;l0 0 9;n1;"), n, 0, 0);
        }
    }

    /** A set of the last sleeper alone: bit 5. */
    private static void wakeTheLast() {
        SleptBread b = Check.street("d2 2;s5,0;s3,2;s9,0;s9,0;s9,0;s1,2;l5 0 50;l1 1 50;n1;");
        CHECK.due("bed of loaf 1", b.beds(1), 5);
        wakeIs("the last is woken", b, 1, 1, 32);
        wakeIs("behind two it passes", b, 2, 0, 0);
        wakeIs("now it is there", b, 0, NONE, NONE);
    }

    /** 'n 0 .. 200': behind none nobody can be helped any more. */
    private static void wakeWithoutNights() {
        wakeIs("he has it", Check.street("d2 5;s0,1;s1,0;l0 0 9;n1;"), 0, NONE, NONE);
        wakeIs("behind one he has not", Check.street("d2 5;s0,1;s1,0;l0 0 9;n1;"), 1, 0, 0);
        wakeIs("a like weight is the lesser dream's", Check.street("d2 5;s1,1;n1;"), 0, 0, 0);
        wakeIs("a like weight is the nightmare's", Check.street("d2 5;s1,1;n0;"), 0, NONE, NONE);
        SleptBread b = Check.street("d2 5;s1,0;n1;");
        CHECK.due("n -1", b.awake(-1, 1), SleptBread.OUTSIDE);
        CHECK.due("n 200", b.awake(200, 1), 0);
        CHECK.due("n 201", b.awake(201, 1), SleptBread.OUTSIDE);
    }

    /** 'the NIGHTMARE; 0 untold'. */
    private static void nightmareUntold() {
        wakeIs("dream 0 is it", Check.street("d2 5;s1,0;s0,1;"), 5, NONE, NONE);
        wakeIs("nobody dreams 0", Check.street("d2 5;s0,1;s0,1;"), 5, 0, 0);
        SleptBread b = Check.street("d2 2;s2,1;s0,5;s2,3;l0 1 50;l2 0 50;");
        wakeIs("0 is woken", b, 1, 1, 1);
    }

    /** He dreams it and nothing is baked for him. */
    private static void wakeCannotHelp() {
        for (int n : new int[] {0, 1, 5, 200}) {
            wakeIs("nothing is baked", Check.street("d2 5;s0,1;s1,0;n1;"), n, NONE, NONE);
            wakeIs("it cannot grow", Check.street("d2 0;s0,1;s1,0;l0 0 9;n1;"), n, NONE, NONE);
            wakeIs("too heavy", Check.street("d3 5;s0,9,0;s0,0,1;l0 2 9;n1;"), n, NONE, NONE);
        }
    }

    /** 'nobody's LIKELIEST': who is awake already has one, too; 'SLEEPERS more'. */
    private static void awakeOnesCountToo() {
        SleptBread b = Check.street("d2 5;s0,1;s1,0;n1;");
        b.wake(0, true);
        wakeIs("awake, he has it", b, 3, NONE, NONE);
        SleptBread c = Check.street("d2 2;s1,2;s5,0;s3,2;s9,0;l0 0 50;l2 1 50;n1;");
        wakeIs("0 is woken", c, 1, 1, 1);
        c.wake(3, true);
        wakeIs("0 more", c, 1, 1, 1);
        c.wake(0, true);
        wakeIs("nobody more", c, 1, 0, 0);
    }

    /** 'the fewest .. of like ones the least'. */
    private static void fewestAheadOfLeast() {
        // 0 and 1 dream it tonight, for the last time; 3 comes to it by either one's loaf.
        String text = "d2 3;s1,2;s1,2;s5,0;s1,0;s5,0;l0 0 50;l1 0 50;l3 1 9;l3 1 9;n1;";
        SleptBread b = Check.street(text);
        CHECK.due("bed of loaf 2", b.beds(2), 0);
        CHECK.due("bed of loaf 3", b.beds(3), 1);
        wakeIs("both", b, 1, 2, 3);
        SleptBread two = Check.street(text.replace("s1,0;", "s3,0;"));
        wakeIs("one, the least", two, 1, 1, 1);
        SleptBread none = Check.street(text.replace("s1,0;", "s6,0;"));
        wakeIs("none", none, 1, 0, 0);
    }
}
