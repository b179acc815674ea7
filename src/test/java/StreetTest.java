/** Promises 1 and 5 to 16: what is so on a street, and what is done there. */
final class StreetTest {
    private static final int NONE = SleptBread.NONE;
    private static final int UNKNOWN = SleptBread.UNKNOWN;
    private static final int OUTSIDE = SleptBread.OUTSIDE;
    private static final int NOT = SleptBread.NOT;
    private static final int[] STRANGE = {-2, 7, 100, Integer.MIN_VALUE, Integer.MAX_VALUE};
    private static final Check CHECK = new Check("StreetTest");
    private static final String PLAIN = "d2 1;s1,3;s2,2;s3,0;l0 1 40;l1 0 10;l2 1 8;n1;";

    public static void main(String[] args) {
        newObject();
        told();
        weight();
        odds();
        likeliest();
        loaf();
        worth();
        lay();
        takeOff();
        wake();
        night();
        nightByWeights();
        eat();
        salt();
        CHECK.finish();
    }

    private static void newObject() {
        SleptBread b = new SleptBread();
        for (int what = 0; what <= 13; what++) {
            CHECK.due("new told(" + what + ")", b.told(what), 0);
        }
        CHECK.due("new fault", b.fault(), NONE);
        CHECK.due("new weight", b.weight(0, 0), UNKNOWN);
        CHECK.due("new odds", b.odds(0, 0, 9), UNKNOWN);
        CHECK.due("new likeliest", b.likeliest(0), UNKNOWN);
        CHECK.due("new loaf", b.loaf(0, 0), UNKNOWN);
        CHECK.due("new worth", b.worth(0, 0), UNKNOWN);
        CHECK.due("new lay", b.lay(0, 0), UNKNOWN);
        CHECK.due("new takeOff", b.takeOff(0), UNKNOWN);
        CHECK.due("new wake", b.wake(0, true), UNKNOWN);
        CHECK.due("new night", b.night(1), NOT);
        CHECK.due("new night outside", b.night(0), OUTSIDE);
        CHECK.due("new eat", b.eat(0), UNKNOWN);
        CHECK.due("new salt", b.salt(0), UNKNOWN);
        CHECK.due("new beds", b.beds(NONE), 0);
        CHECK.due("new beds of a loaf", b.beds(0), UNKNOWN);
        CHECK.due("new feedings", b.feedings(0, 0), UNKNOWN);
        CHECK.due("new foretold", b.foretold(0, NONE, 999), UNKNOWN);
        CHECK.due("new settled", b.settled(), 0);
        CHECK.due("new awake", b.awake(200, 1), 0);
        CHECK.due("new bite", b.bite(0), UNKNOWN);
        CHECK.due("new mayBe", b.mayBe(), 0);
        CHECK.due("new whose", b.whose(), NONE);
        CHECK.due("new howLikely", b.howLikely(0), UNKNOWN);
        CHECK.due("new crumbs", b.crumbs(NONE), 1);
        CHECK.due("new crumbs of a loaf", b.crumbs(0), UNKNOWN);
        CHECK.due("new hire", b.hire(0, 0), UNKNOWN);
        CHECK.due("new bread", b.bread(1), 0);
        CHECK.due("new write", b.write(0, 0, 0), UNKNOWN);
        CHECK.due("new tear", b.tear(), 0);
        CHECK.due("new judge", b.judge(), NONE);
        CHECK.due("new goBack", b.goBack(0), NOT);
        CHECK.due("new keep", b.keep(0), 1);
        CHECK.due("new goBack to what was kept", b.goBack(0), 1);
        CHECK.due("new seed", b.seed(5), 0);
    }

    private static void told() {
        SleptBread b = Check.street(PLAIN);
        b.feed('x');
        b.feed('y');
        b.lay(0, 1);
        b.lay(2, 0);
        b.wake(1, true);
        b.wake(2, true);
        b.night(3);
        b.salt(1);
        b.salt(2);
        b.bite(0);
        b.bite(1);
        b.bite(1);
        b.write(0, 0, 0);
        int[] due = {2, 1, 3, 3, 1, 2, 3, 0, 6, 1, 4, 6, 3, 1};
        for (int what = 0; what < due.length; what++) {
            CHECK.due("told(" + what + ")", b.told(what), due[what]);
        }
        CHECK.due("told(-1)", b.told(-1), OUTSIDE);
        CHECK.due("told(14)", b.told(14), OUTSIDE);
        CHECK.due("told(least)", b.told(Integer.MIN_VALUE), OUTSIDE);
        CHECK.due("told(most)", b.told(Integer.MAX_VALUE), OUTSIDE);
        CHECK.due("nightmare untold", Check.street("d3 0;s1,1,1;").told(4), 0);
    }

    private static void weight() {
        SleptBread b = Check.street(PLAIN);
        int[] due = {1, 3, 2, 2, 3, 0};
        for (int i = 0; i < due.length; i++) {
            CHECK.due("weight " + i, b.weight(i / 2, i % 2), due[i]);
        }
        CHECK.due("weight of sleeper 3", b.weight(3, 0), UNKNOWN);
        CHECK.due("weight of dream 2", b.weight(0, 2), UNKNOWN);
        CHECK.due("weight of sleeper -1", b.weight(-1, 0), UNKNOWN);
        CHECK.due("weight of dream -1", b.weight(1, -1), UNKNOWN);
        for (int strange : STRANGE) {
            CHECK.due("weight of a strange sleeper", b.weight(strange, 0), UNKNOWN);
            CHECK.due("weight of a strange dream", b.weight(0, strange), UNKNOWN);
        }
    }

    private static void odds() {
        SleptBread b = Check.street("d5 1;s1,3,0,2,6;s9,9,9,9,9;s0,0,0,0,7;s4,6,0,0,0;");
        int[] above = {1, 1, 0, 1, 1};
        int[] below = {12, 4, 1, 6, 2};
        for (int d = 0; d < 5; d++) {
            CHECK.due("odds above of " + d, b.odds(0, d, 0), above[d]);
            CHECK.due("odds below of " + d, b.odds(0, d, 1), below[d]);
            CHECK.due("a fifth above", b.odds(1, d, 0), 1);
            CHECK.due("a fifth below", b.odds(1, d, 1), 5);
            CHECK.due("sure above", b.odds(2, d, 0), d == 4 ? 1 : 0);
            CHECK.due("sure below", b.odds(2, d, 1), 1);
        }
        CHECK.due("two fifths above", b.odds(3, 0, 0), 2);
        CHECK.due("two fifths below", b.odds(3, 0, 1), 5);
        CHECK.due("three fifths above", b.odds(3, 1, 0), 3);
        CHECK.due("part 2", b.odds(0, 0, 2), OUTSIDE);
        CHECK.due("part -1", b.odds(0, 0, -1), OUTSIDE);
        CHECK.due("UNKNOWN sleeper goes first", b.odds(4, 0, 2), UNKNOWN);
        CHECK.due("UNKNOWN dream goes first", b.odds(0, 5, 2), UNKNOWN);
        for (int strange : STRANGE) {
            CHECK.due("odds of a strange sleeper", b.odds(strange, 0, 0), UNKNOWN);
            CHECK.due("odds of a strange dream", b.odds(0, strange, 0), UNKNOWN);
            CHECK.due("odds of a strange part", b.odds(0, 0, strange), OUTSIDE);
        }
    }

    private static void likeliest() {
        SleptBread b = Check.street("d4 1;s1,3,0,2;s2,2,2,2;s0,4,9,9;s0,0,0,1;s5,0,0,5;");
        int[] due = {1, 0, 2, 3, 0};
        for (int s = 0; s < due.length; s++) {
            CHECK.due("likeliest(" + s + ")", b.likeliest(s), due[s]);
        }
        CHECK.due("likeliest(5)", b.likeliest(5), UNKNOWN);
        CHECK.due("likeliest(-1)", b.likeliest(-1), UNKNOWN);
        for (int strange : STRANGE) {
            CHECK.due("likeliest of a strange one", b.likeliest(strange), UNKNOWN);
        }
    }

    private static void loaf() {
        SleptBread b = Check.street(PLAIN);
        int[][] due = {{0, 1, 40, NONE, NONE, 0}, {1, 0, 10, NONE, NONE, 0}, {2, 1, 8, NONE, NONE, 0}};
        for (int l = 0; l < 3; l++) {
            for (int what = 0; what < 6; what++) {
                CHECK.due("loaf(" + l + ", " + what + ")", b.loaf(l, what), due[l][what]);
            }
        }
        b.lay(1, 2);
        b.salt(1);
        CHECK.due("on a pillow", b.loaf(1, 3), 2);
        CHECK.due("fresh there", b.loaf(1, 4), NONE);
        CHECK.due("salted", b.loaf(1, 5), 1);
        b.night(1);
        CHECK.due("on none any more", b.loaf(1, 3), NONE);
        CHECK.due("tastes", b.loaf(1, 4), 0);
        CHECK.due("loaf(0, 6)", b.loaf(0, 6), OUTSIDE);
        CHECK.due("loaf(0, -1)", b.loaf(0, -1), OUTSIDE);
        CHECK.due("loaf(3, 0)", b.loaf(3, 0), UNKNOWN);
        CHECK.due("loaf(-1, 0)", b.loaf(-1, 0), UNKNOWN);
        CHECK.due("UNKNOWN goes first", b.loaf(3, 6), UNKNOWN);
        for (int strange : STRANGE) {
            CHECK.due("a strange loaf", b.loaf(strange, 0), UNKNOWN);
            CHECK.due("strange of a loaf", b.loaf(0, strange), OUTSIDE);
        }
    }

    private static void worth() {
        SleptBread b = Check.street(PLAIN);
        int[][] due = {{NOT, 20000000, 0}, {2500000, NOT, 10000000}, {6000000, 4000000, NOT}};
        for (int l = 0; l < 3; l++) {
            for (int s = 0; s < 3; s++) {
                CHECK.due("worth(" + l + ", " + s + ")", b.worth(l, s), due[l][s]);
            }
        }
        CHECK.due("worth(3, 0)", b.worth(3, 0), UNKNOWN);
        CHECK.due("worth(0, 3)", b.worth(0, 3), UNKNOWN);
        CHECK.due("worth(-1, 0)", b.worth(-1, 0), UNKNOWN);
        CHECK.due("worth(0, -1)", b.worth(0, -1), UNKNOWN);
        SleptBread cut = Check.street("d2 0;s9,1;s1,2;s9,5;s9,0;l0 0 1;l1 1 99;l0 1 99;");
        CHECK.due("a third, cut", cut.worth(0, 1), 333333);
        CHECK.due("99 of 5 in 14, cut", cut.worth(1, 2), 35357142);
        CHECK.due("none of it", cut.worth(2, 3), 0);
        CHECK.due("most", Check.street("d2 0;s9,0;s9,0;l0 0 99;").worth(0, 1), 99000000);
        b.lay(1, 2);
        b.wake(2, true);
        CHECK.due("laid, he awake", b.worth(1, 2), 10000000);
        for (int strange : STRANGE) {
            CHECK.due("worth of a strange loaf", b.worth(strange, 0), UNKNOWN);
            CHECK.due("worth on a strange one", b.worth(0, strange), UNKNOWN);
        }
    }

    private static void lay() {
        SleptBread b = Check.street(PLAIN);
        CHECK.due("lay(3, 0)", b.lay(3, 0), UNKNOWN);
        CHECK.due("lay(0, 3)", b.lay(0, 3), UNKNOWN);
        CHECK.due("lay(-1, 0)", b.lay(-1, 0), UNKNOWN);
        CHECK.due("lay(0, -1)", b.lay(0, -1), UNKNOWN);
        for (int strange : STRANGE) {
            CHECK.due("lay a strange loaf", b.lay(strange, 0), UNKNOWN);
            CHECK.due("lay on a strange one", b.lay(0, strange), UNKNOWN);
        }
        CHECK.due("on its eater", b.lay(1, 1), NOT);
        CHECK.due("laid", b.lay(1, 2), 2);
        CHECK.due("lies already", b.lay(1, 0), NOT);
        CHECK.due("lies there already", b.lay(1, 2), NOT);
        CHECK.due("another one lies there", b.lay(0, 2), NOT);
        b.wake(1, true);
        CHECK.due("on one who is awake", b.lay(0, 1), 3);
        CHECK.due("all three", b.lay(2, 0), 7);
        b.night(1);
        CHECK.due("those slept on are off", b.told(9), 1);
        CHECK.due("not fresh", b.lay(1, 0), NOT);
        b.eat(1);
        CHECK.due("fresh again", b.lay(1, 0), 3);
    }

    private static void takeOff() {
        SleptBread b = Check.street(PLAIN);
        CHECK.due("lies on none", b.takeOff(0), NOT);
        b.lay(0, 2);
        b.lay(1, 0);
        CHECK.due("taken off 2", b.takeOff(0), 2);
        CHECK.due("the other lies", b.told(9), 2);
        CHECK.due("taken off 0", b.takeOff(1), 0);
        CHECK.due("none lies", b.told(9), 0);
        CHECK.due("off already", b.takeOff(1), NOT);
        CHECK.due("pillow is free", b.lay(2, 0), 4);
        b.night(1);
        CHECK.due("slept on", b.takeOff(2), NOT);
        CHECK.due("takeOff(3)", b.takeOff(3), UNKNOWN);
        CHECK.due("takeOff(-1)", b.takeOff(-1), UNKNOWN);
        for (int strange : STRANGE) {
            CHECK.due("take off a strange one", b.takeOff(strange), UNKNOWN);
        }
    }

    private static void wake() {
        SleptBread b = Check.street(PLAIN);
        CHECK.due("slept, sleeps", b.wake(0, false), 0);
        CHECK.due("slept, is awake", b.wake(2, true), 0);
        CHECK.due("was awake, is", b.wake(2, true), 1);
        CHECK.due("another", b.wake(0, true), 0);
        CHECK.due("who is awake", b.told(8), 5);
        CHECK.due("was awake, sleeps", b.wake(2, false), 1);
        CHECK.due("sleeps", b.wake(2, false), 0);
        CHECK.due("who is awake yet", b.told(8), 1);
        CHECK.due("wake(3)", b.wake(3, true), UNKNOWN);
        CHECK.due("wake(-1)", b.wake(-1, false), UNKNOWN);
        for (int strange : STRANGE) {
            CHECK.due("wake a strange one", b.wake(strange, true), UNKNOWN);
        }
        CHECK.due("nobody else is awake", b.told(8), 1);
    }

    private static void night() {
        SleptBread b = Check.street(PLAIN);
        CHECK.due("night(0)", b.night(0), OUTSIDE);
        CHECK.due("night(31)", b.night(31), OUTSIDE);
        CHECK.due("night(-1)", b.night(-1), OUTSIDE);
        CHECK.due("night(most)", b.night(Integer.MAX_VALUE), OUTSIDE);
        CHECK.due("no night yet", b.told(6), 0);
        b.lay(0, 1);
        b.lay(1, 2);
        CHECK.due("a night", b.night(1), 3);
        CHECK.due("nights", b.told(6), 1);
        CHECK.due("draw 2 of 4 is 0", b.loaf(0, 4), 0);
        CHECK.due("draw 3 of 3 is 1", b.loaf(1, 4), 0);
        CHECK.due("three draws", b.seed(654583775), 654583775);
        b.eat(1);
        b.lay(2, 0);
        CHECK.due("all that are slept on", b.night(1), 5);
        CHECK.due("draw 4 of 4 is 1: beyond dream 0", b.loaf(2, 4), 1);
        b.seed(0);
        CHECK.due("thirty nights", b.night(30), 5);
        CHECK.due("nights in all", b.told(6), 32);
        SleptBread empty = Check.street("d2 0;");
        CHECK.due("nobody sleeps", empty.night(2), 0);
        CHECK.due("nights without sleepers", empty.told(6), 2);
        CHECK.due("no draw without sleepers", empty.seed(0), 0);
        SleptBread awake = Check.street(PLAIN);
        awake.wake(0, true);
        awake.wake(1, true);
        awake.lay(0, 1);
        CHECK.due("his loaf stays", awake.night(1), 0);
        CHECK.due("on his pillow", awake.loaf(0, 3), 1);
        CHECK.due("one draw", awake.seed(0), 12345);
    }

    /** Dreams drawn one by one, by weights 1 of 10, 2, 3, 4. */
    private static void nightByWeights() {
        SleptBread b = Check.street("d4 0;s1,2,3,4;s1,0,0,0;l1 0 1;");
        int[] drawn = {0, 8, 8, 7, 8, 7, 5, 1, 2, 0};
        int[] before = {0, 12345, 1406932606, 654583775, 1449466924, 229283573, 1109335178,
            1051550459, 1293799192, 794471793};
        int[] byDraw = {0, 1, 1, 2, 2, 2, 3, 3, 3, 3};
        for (int i = 0; i < drawn.length; i++) {
            b.seed(before[i]);
            b.lay(0, 0);
            b.night(1);
            CHECK.due("draw " + drawn[i], b.loaf(0, 4), byDraw[drawn[i]]);
            b.eat(0);
        }
        SleptBread gap = Check.street("d3 0;s0,5,0;s0,0,1;l1 0 1;l0 0 1;");
        gap.lay(0, 0);
        gap.lay(1, 1);
        gap.night(1);
        CHECK.due("never a dream of no weight", gap.loaf(0, 4), 1);
        CHECK.due("nor two", gap.loaf(1, 4), 2);
    }

    private static void eat() {
        SleptBread b = Check.street("d2 4;s3,0;s0,2;l0 1 40;l0 0 7;l1 0 9;");
        CHECK.due("eat(3)", b.eat(3), UNKNOWN);
        CHECK.due("eat(-1)", b.eat(-1), UNKNOWN);
        CHECK.due("fresh", b.eat(0), NOT);
        b.lay(0, 1);
        b.lay(2, 0);
        CHECK.due("on a pillow", b.eat(0), NOT);
        b.night(1);
        CHECK.due("as wanted", b.eat(0), 40);
        CHECK.due("heavier by G", b.weight(0, 1), 4);
        CHECK.due("the other weight", b.weight(0, 0), 3);
        CHECK.due("fresh again", b.loaf(0, 4), NONE);
        CHECK.due("no twice", b.eat(0), NOT);
        CHECK.due("wanted too", b.eat(2), 49);
        CHECK.due("by its own eater", b.weight(1, 0), 4);
        for (int i = 0; i < 2; i++) {
            b.seed(12345);
            b.lay(1, 1);
            b.night(1);
            CHECK.due("draw 3 of 6 is 4: beyond dream 0", b.loaf(1, 4), 1);
            CHECK.due("not as wanted", b.eat(1), 49);
            CHECK.due("nine at most", b.weight(0, 1), i == 0 ? 8 : 9);
        }
        CHECK.due("earned", b.told(7), 49);
        for (int strange : STRANGE) {
            CHECK.due("eat a strange one", b.eat(strange), UNKNOWN);
        }
        SleptBread still = Check.street("d2 0;s1,0;s1,0;l0 0 5;");
        still.lay(0, 1);
        still.night(1);
        CHECK.due("earned, G 0", still.eat(0), 5);
        CHECK.due("no heavier, G 0", still.weight(0, 0), 1);
    }

    private static void salt() {
        SleptBread b = Check.street("d2 4;s3,0;s0,2;l0 1 40;l1 0 9;");
        CHECK.due("not salted", b.salt(0), 0);
        CHECK.due("salted fresh", b.salt(0), 1);
        CHECK.due("set", b.told(11), 1);
        b.lay(0, 1);
        b.lay(1, 0);
        b.night(1);
        CHECK.due("salted yet", b.loaf(0, 5), 1);
        CHECK.due("earns salted", b.eat(0), 40);
        CHECK.due("no heavier salted", b.weight(0, 1), 0);
        CHECK.due("not salted any more", b.loaf(0, 5), 0);
        CHECK.due("salted slept on", b.salt(1), 0);
        CHECK.due("set of the other", b.told(11), 2);
        b.eat(1);
        CHECK.due("no heavier", b.weight(1, 0), 0);
        CHECK.due("none salted", b.told(11), 0);
        b.lay(0, 1);
        b.night(1);
        b.eat(0);
        CHECK.due("heavier, salted no more", b.weight(0, 1), 4);
        CHECK.due("salt(2)", b.salt(2), UNKNOWN);
        CHECK.due("salt(-1)", b.salt(-1), UNKNOWN);
        for (int strange : STRANGE) {
            CHECK.due("salt a strange one", b.salt(strange), UNKNOWN);
        }
    }
}
