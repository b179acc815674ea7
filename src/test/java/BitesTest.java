/** Promises 22 to 28: bites, crumbs, hire, bread. */
final class BitesTest {
    private static final int NONE = SleptBread.NONE;
    private static final int UNKNOWN = SleptBread.UNKNOWN;
    private static final int OUTSIDE = SleptBread.OUTSIDE;
    private static final int FULL = SleptBread.FULL;
    private static final int[] STRANGE = {-2, 8, 100, Integer.MIN_VALUE, Integer.MAX_VALUE};
    private static final Check CHECK = new Check("BitesTest");
    private static final String PLAIN = "d2 1;s1,3;s2,2;s3,0;l0 1 40;l1 0 10;l2 1 8;n1;";

    public static void main(String[] args) {
        bite();
        whoseByBites();
        nobody();
        cutParts();
        bitesByWeightsOfNow();
        crumbs();
        sureBeds();
        hire();
        bread();
        breadCut();
        CHECK.finish();
    }

    private static void bite() {
        SleptBread b = Check.street(PLAIN);
        CHECK.due("bite(2)", b.bite(2), UNKNOWN);
        CHECK.due("bite(-1)", b.bite(-1), UNKNOWN);
        for (int i = 1; i <= 8; i++) {
            CHECK.due("bite " + i, b.bite(i % 2), i);
        }
        CHECK.due("a ninth", b.bite(0), FULL);
        CHECK.due("UNKNOWN goes ahead of FULL", b.bite(2), UNKNOWN);
        CHECK.due("bites", b.told(12), 8);
        for (int strange : STRANGE) {
            CHECK.due("a strange bite", b.bite(strange), UNKNOWN);
        }
    }

    private static void whoIs(String name, SleptBread b, int set, int whose, int... likely) {
        CHECK.due(name + ": mayBe", b.mayBe(), set);
        CHECK.due(name + ": whose", b.whose(), whose);
        for (int s = 0; s < likely.length; s++) {
            CHECK.due(name + ": howLikely(" + s + ")", b.howLikely(s), likely[s]);
        }
    }

    private static void whoseByBites() {
        SleptBread b = Check.street(PLAIN);
        whoIs("no bite", b, 7, 0, 333333, 333333, 333333);
        b.bite(1);
        whoIs("one bite", b, 3, 0, 600000, 400000, 0);
        b.bite(0);
        whoIs("two bites", b, 3, 1, 428571, 571428, 0);
        b.wake(1, true);
        whoIs("awake ones, too", b, 3, 1, 428571, 571428, 0);
        b.tear();
        b.bite(0);
        whoIs("another", b, 7, 2, 142857, 285714, 571428);
        CHECK.due("howLikely(3)", b.howLikely(3), UNKNOWN);
        CHECK.due("howLikely(-1)", b.howLikely(-1), UNKNOWN);
        for (int strange : STRANGE) {
            CHECK.due("how likely a strange one", b.howLikely(strange), UNKNOWN);
        }
        SleptBread like = Check.street("d2 0;s1,3;s2,2;s1,1;s3,3;");
        like.bite(0);
        whoIs("the least of like ones", like, 15, 1, 142857, 285714, 285714, 285714);
    }

    private static void nobody() {
        SleptBread b = Check.street("d2 0;s1,0;s0,1;");
        b.bite(0);
        whoIs("one", b, 1, 0, 1000000, 0);
        b.bite(1);
        whoIs("nobody", b, 0, NONE, 0, 0);
        whoIs("no sleepers", Check.street("d2 0;"), 0, NONE);
    }

    /** Each part is cut at each bite: likelihoods that are the same exactly come to differ. */
    private static void cutParts() {
        SleptBread b = Check.street("d2 0;s1,6;s6,1;");
        b.bite(0);
        b.bite(1);
        whoIs("122448978 and 122448979", b, 3, 1, 499999, 500000);
        SleptBread last = Check.street("d5 0;s1,9,9,9,3;");
        for (int i = 0; i < 6; i++) {
            last.bite(0);
        }
        whoIs("a part of 1", last, 1, 0, 1000000);
        SleptBread far = Check.street("d5 0;s1,9,9,9,9;");
        for (int i = 0; i < 5; i++) {
            far.bite(0);
        }
        whoIs("a part of 14", far, 1, 0, 1000000);
        far.bite(0);
        whoIs("cut to 0, though it can be he", far, 1, NONE, 0);
    }

    private static void bitesByWeightsOfNow() {
        SleptBread b = Check.street("d2 1;s1,0;s0,1;l0 0 5;");
        b.bite(1);
        whoIs("by 1 alone", b, 2, 1, 0, 1000000);
        b.lay(0, 1);
        b.night(1);
        b.eat(0);
        whoIs("he came to dream so", b, 3, 1, 333333, 666666);
    }

    private static void crumbs() {
        SleptBread b = Check.street(PLAIN);
        CHECK.due("none slept on: one way", b.crumbs(NONE), 1);
        CHECK.due("not slept on", b.crumbs(0), NONE);
        b.lay(0, 1);
        b.lay(1, 2);
        b.lay(2, 0);
        CHECK.due("on pillows only", b.crumbs(NONE), 1);
        b.night(1);
        CHECK.due("none on his own", b.crumbs(NONE), 2);
        for (int l = 0; l < 3; l++) {
            CHECK.due("not the same", b.crumbs(l), NONE);
        }
        b.eat(2);
        CHECK.due("two loaves", b.crumbs(NONE), 3);
        b.wake(0, true);
        b.wake(1, true);
        CHECK.due("awake ones, too", b.crumbs(NONE), 3);
        b.eat(1);
        CHECK.due("one loaf", b.crumbs(NONE), 2);
        CHECK.due("crumbs(3)", b.crumbs(3), UNKNOWN);
        for (int strange : STRANGE) {
            CHECK.due("crumbs of a strange one", b.crumbs(strange), UNKNOWN);
        }
    }

    private static void sureBeds() {
        SleptBread b = Check.street("d2 1;s1,0;s0,1;s1,1;l1 0 5;l2 0 5;l1 1 5;");
        b.lay(1, 0);
        b.night(1);
        CHECK.due("one way", b.crumbs(NONE), 1);
        CHECK.due("he is sure", b.crumbs(1), 0);
        CHECK.due("fresh", b.crumbs(0), NONE);
        b.lay(0, 0);
        b.night(1);
        CHECK.due("one way by the other", b.crumbs(NONE), 1);
        CHECK.due("sure yet", b.crumbs(1), 0);
        CHECK.due("sure as 0 is taken", b.crumbs(0), 2);
        b.lay(2, 0);
        b.night(1);
        CHECK.due("no way", b.crumbs(NONE), 0);
        for (int l = 0; l < 3; l++) {
            CHECK.due("no way for it", b.crumbs(l), NONE);
        }
        SleptBread seven = Check.street("d2 0;s1,0;s1,0;l0 0 1;l0 0 1;l0 0 1;l0 0 1;l0 0 1;l0 0 1;l0 0 1;");
        for (int l = 0; l < 7; l++) {
            seven.lay(l, 1);
            seven.night(1);
        }
        CHECK.due("seven loaves, two sleepers", seven.crumbs(NONE), 0);
        SleptBread many = Check.street(
            "d2 0;s1,0;s1,0;s1,0;s1,0;s1,0;s1,0;l0 0 1;l1 0 1;l2 0 1;l3 0 1;l4 0 1;l5 0 1;");
        for (int l = 0; l < 6; l++) {
            many.lay(l, (l + 1) % 6);
        }
        many.night(1);
        CHECK.due("six, none on his own", many.crumbs(NONE), 265);
    }

    private static void hireIs(SleptBread b, int s, int loaf, int price) {
        CHECK.due("hire(" + s + ", 0)", b.hire(s, 0), loaf);
        CHECK.due("hire(" + s + ", 1)", b.hire(s, 1), price);
    }

    private static void hire() {
        SleptBread b = Check.street(PLAIN);
        hireIs(b, 0, 2, 2500000);
        hireIs(b, 1, 0, 4000000);
        hireIs(b, 2, 1, 0);
        b.lay(0, 1);
        b.wake(0, true);
        hireIs(b, 0, 2, 2500000);
        hireIs(b, 1, 0, 4000000);
        b.night(1);
        hireIs(b, 1, 2, 0);
        b.eat(0);
        b.lay(1, 2);
        b.night(1);
        hireIs(b, 2, NONE, NONE);
        CHECK.due("what 2", b.hire(0, 2), OUTSIDE);
        CHECK.due("what -1", b.hire(0, -1), OUTSIDE);
        CHECK.due("UNKNOWN goes first", b.hire(3, 2), UNKNOWN);
        CHECK.due("hire(-1, 0)", b.hire(-1, 0), UNKNOWN);
        for (int strange : STRANGE) {
            CHECK.due("hire a strange one", b.hire(strange, 0), UNKNOWN);
            CHECK.due("hire for strange", b.hire(0, strange), OUTSIDE);
        }
        SleptBread like = Check.street("d2 0;s1,0;s1,1;l1 0 3;l1 0 7;l1 0 7;l1 0 5;l0 0 99;");
        hireIs(like, 0, 1, 7000000);
        SleptBread later = Check.street("d2 0;s1,0;s1,1;l1 0 9;l1 0 3;l1 0 5;");
        hireIs(later, 0, 0, 5000000);
        hireIs(later, 1, NONE, NONE);
        hireIs(Check.street("d2 0;s1,0;s1,1;l1 0 0;l1 1 9;"), 0, NONE, NONE);
    }

    private static void breadIs(String name, SleptBread b, int... due) {
        for (int k = 1; k <= 7; k++) {
            CHECK.due(name + ": bread(" + k + ")", b.bread(k), k <= due.length ? due[k - 1] : 0);
        }
    }

    private static void bread() {
        SleptBread b = Check.street(PLAIN);
        breadIs("none lies", b);
        b.lay(0, 1);
        breadIs("one lies", b, 500000);
        b.lay(1, 2);
        b.lay(2, 0);
        breadIs("all lie", b, 1000000, 875000, 375000);
        b.wake(2, true);
        breadIs("2 is awake", b, 875000, 375000);
        CHECK.due("bread(0)", b.bread(0), OUTSIDE);
        CHECK.due("bread(-1)", b.bread(-1), OUTSIDE);
        for (int strange : STRANGE) {
            CHECK.due("bread of strange", b.bread(strange), OUTSIDE);
        }
        b.night(1);
        breadIs("slept on are on no pillow", b);
    }

    /** The part that does is cut, the rest is all the rest. */
    private static void breadCut() {
        SleptBread b = Check.street("d2 0;s1,2;s1,2;s5,2;l1 0 1;l0 0 1;l0 1 1;");
        b.lay(0, 0);
        breadIs("a third", b, 333333);
        b.lay(1, 1);
        breadIs("two thirds", b, 333333 + 222222, 111111);
        b.lay(2, 2);
        // 444445 by 2 in 7: 126984; 444444: 126984; 111111: 31746.
        breadIs("and two in seven", b, 1000000 - (444445 - 126984), 111111 + 126984, 31746);
        SleptBread order = Check.street("d2 0;s1,6;s6,1;l1 0 1;l0 0 1;");
        order.lay(1, 1);
        order.lay(0, 0);
        // Loaf by loaf, whichever was laid first: 142857 of a million, then 6 in 7 of 142857 and of 857143.
        breadIs("loaf 0 first", order, 142857 + 734694, 122448);
    }
}
