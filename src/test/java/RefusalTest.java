import java.util.function.Supplier;
import java.util.function.ToIntFunction;

/**
 * 'REFUSALS, of several the first in this order ..', 'What is refused changes nothing', and 'TRIED from now; nothing
 * changes by it': each call on a street where much is so, compared with a like object that was not called.
 */
final class RefusalTest {
    private static final int NONE = SleptBread.NONE;
    private static final int UNKNOWN = SleptBread.UNKNOWN;
    private static final int OUTSIDE = SleptBread.OUTSIDE;
    private static final int NOT = SleptBread.NOT;
    private static final int FULL = SleptBread.FULL;
    private static final int LEAST = Integer.MIN_VALUE;
    private static final int MOST = Integer.MAX_VALUE;
    private static final Check CHECK = new Check("RefusalTest");

    private static Supplier<SleptBread> made = RefusalTest::rich;

    public static void main(String[] args) {
        theStreet();
        whatIsDone();
        tried();
        bitesAndCrumbs();
        booksAndImages();
        full();
        noDreams();
        notKept();
        withoutRefusal();
        CHECK.finish();
    }

    /**
     * Loaf 0 lies on 1, loaf 1 is slept on and salted, loaf 2 is free, loaf 3 is slept on; 0 is awake; three bites,
     * two entries, image 0 kept (image 1, too), a text begun.
     */
    private static SleptBread rich() {
        SleptBread b = Check.street("d3 2;s1,3,0;s2,2,2;s0,0,5;l0 1 40;l1 0 10;l2 1 8;l0 2 7;n1;");
        b.lay(3, 2);
        b.night(1);
        b.eat(3);
        b.keep(0);
        b.lay(1, 0);
        b.lay(3, 2);
        b.night(1);
        b.wake(0, true);
        b.lay(0, 1);
        b.salt(1);
        b.keep(1);
        b.bite(0);
        b.bite(1);
        b.bite(1);
        b.write(0, 0, 1);
        b.write(2, 2, 4);
        b.seed(4711);
        Check.feed(b, "d4 1;n");
        return b;
    }

    private static SleptBread allFull() {
        SleptBread b = rich();
        for (int i = 0; i < 5; i++) {
            b.bite(1);
        }
        for (int i = 0; i < 13; i++) {
            b.write(0, 0, 1);
        }
        Check.feed(b, " ".repeat(234));
        return b;
    }

    private static SleptBread unkept() {
        return Check.street("d2 2;s1,3;s2,2;l0 1 40;");
    }

    private static void same(String name, ToIntFunction<SleptBread> call) {
        SleptBread b = made.get();
        call.applyAsInt(b);
        String twin = Seen.of(made.get());
        String seen = Seen.of(b);
        CHECK.holds(name + " changes nothing: " + seen + " was " + twin, seen.equals(twin));
    }

    private static void refused(String name, int due, ToIntFunction<SleptBread> call) {
        CHECK.due(name, call.applyAsInt(made.get()), due);
        same(name, call);
    }

    private static void theStreet() {
        for (int strange : new int[] {-1, 256, 1000, LEAST, MOST}) {
            refused("feed(" + strange + ")", OUTSIDE, b -> b.feed(strange));
        }
        for (int strange : new int[] {-1, 14, LEAST, MOST}) {
            refused("told(" + strange + ")", OUTSIDE, b -> b.told(strange));
        }
        for (int strange : new int[] {-1, 3, 6, LEAST, MOST}) {
            refused("weight(" + strange + ", 0)", UNKNOWN, b -> b.weight(strange, 0));
            refused("weight(0, " + strange + ")", UNKNOWN, b -> b.weight(0, strange));
            refused("odds(" + strange + ", 0, 0)", UNKNOWN, b -> b.odds(strange, 0, 0));
            refused("odds(0, " + strange + ", 0)", UNKNOWN, b -> b.odds(0, strange, 0));
            refused("odds(" + strange + ", 0, 2)", UNKNOWN, b -> b.odds(strange, 0, 2));
            refused("odds(0, " + strange + ", -1)", UNKNOWN, b -> b.odds(0, strange, -1));
            refused("likeliest(" + strange + ")", UNKNOWN, b -> b.likeliest(strange));
            refused("worth(2, " + strange + ")", UNKNOWN, b -> b.worth(2, strange));
        }
        for (int strange : new int[] {-1, 2, LEAST, MOST}) {
            refused("odds(0, 0, " + strange + ")", OUTSIDE, b -> b.odds(0, 0, strange));
        }
        for (int strange : new int[] {-1, 4, 7, LEAST, MOST}) {
            refused("loaf(" + strange + ", 0)", UNKNOWN, b -> b.loaf(strange, 0));
            refused("loaf(" + strange + ", 6)", UNKNOWN, b -> b.loaf(strange, 6));
            refused("worth(" + strange + ", 0)", UNKNOWN, b -> b.worth(strange, 0));
        }
        for (int strange : new int[] {-1, 6, LEAST, MOST}) {
            refused("loaf(0, " + strange + ")", OUTSIDE, b -> b.loaf(0, strange));
        }
        refused("worth on its eater", NOT, b -> b.worth(2, 2));
    }

    private static void whatIsDone() {
        for (int strange : new int[] {-1, 4, 7, LEAST, MOST}) {
            refused("lay(" + strange + ", 2)", UNKNOWN, b -> b.lay(strange, 2));
            refused("lay on a pillow that is not free", UNKNOWN, b -> b.lay(strange, 1));
            refused("takeOff(" + strange + ")", UNKNOWN, b -> b.takeOff(strange));
            refused("eat(" + strange + ")", UNKNOWN, b -> b.eat(strange));
            refused("salt(" + strange + ")", UNKNOWN, b -> b.salt(strange));
        }
        for (int strange : new int[] {-1, 3, 6, LEAST, MOST}) {
            refused("lay(2, " + strange + ")", UNKNOWN, b -> b.lay(2, strange));
            refused("lay what is slept on on " + strange, UNKNOWN, b -> b.lay(1, strange));
            refused("lay what lies on " + strange, UNKNOWN, b -> b.lay(0, strange));
            refused("wake(" + strange + ", true)", UNKNOWN, b -> b.wake(strange, true));
            refused("wake(" + strange + ", false)", UNKNOWN, b -> b.wake(strange, false));
        }
        refused("lay: it is not fresh", NOT, b -> b.lay(1, 0));
        refused("lay: it lies already", NOT, b -> b.lay(0, 2));
        refused("lay: it lies there already", NOT, b -> b.lay(0, 1));
        refused("lay: he will eat it", NOT, b -> b.lay(2, 2));
        refused("lay: another one lies there", NOT, b -> b.lay(2, 1));
        refused("lay: all of these", NOT, b -> b.lay(1, 1));
        refused("takeOff: it is free", NOT, b -> b.takeOff(2));
        refused("takeOff: it is slept on", NOT, b -> b.takeOff(1));
        for (int strange : new int[] {0, 31, -1, LEAST, MOST}) {
            refused("night(" + strange + ")", OUTSIDE, b -> b.night(strange));
        }
        refused("eat: it is fresh", NOT, b -> b.eat(2));
        refused("eat: it is on a pillow", NOT, b -> b.eat(0));
    }

    private static void tried() {
        for (int strange : new int[] {-2, 4, 7, LEAST, MOST}) {
            refused("beds(" + strange + ")", UNKNOWN, b -> b.beds(strange));
        }
        for (int strange : new int[] {-1, 3, 6, LEAST, MOST}) {
            refused("feedings(" + strange + ", 0)", UNKNOWN, b -> b.feedings(strange, 0));
            refused("feedings(0, " + strange + ")", UNKNOWN, b -> b.feedings(0, strange));
            refused("foretold(" + strange + ", 0, 1)", UNKNOWN, b -> b.foretold(strange, 0, 1));
            refused("foretold(" + strange + ", -1, 1)", UNKNOWN, b -> b.foretold(strange, NONE, 1));
            refused("foretold(" + strange + ", 0, 201)", UNKNOWN, b -> b.foretold(strange, 0, 201));
        }
        for (int strange : new int[] {-2, 3, 5, LEAST, MOST}) {
            refused("foretold(0, " + strange + ", 1)", UNKNOWN, b -> b.foretold(0, strange, 1));
            refused("foretold(0, " + strange + ", -1)", UNKNOWN, b -> b.foretold(0, strange, -1));
        }
        for (int strange : new int[] {-1, 201, LEAST, MOST}) {
            refused("foretold(0, 0, " + strange + ")", OUTSIDE, b -> b.foretold(0, 0, strange));
            refused("foretold(0, -1, " + strange + ")", OUTSIDE, b -> b.foretold(0, NONE, strange));
            refused("awake(" + strange + ", 0)", OUTSIDE, b -> b.awake(strange, 0));
            refused("awake(" + strange + ", 2)", OUTSIDE, b -> b.awake(strange, 2));
        }
        for (int strange : new int[] {-1, 2, LEAST, MOST}) {
            refused("awake(1, " + strange + ")", OUTSIDE, b -> b.awake(1, strange));
        }
    }

    private static void bitesAndCrumbs() {
        for (int strange : new int[] {-1, 3, 5, 6, LEAST, MOST}) {
            refused("bite(" + strange + ")", UNKNOWN, b -> b.bite(strange));
            refused("howLikely(" + strange + ")", UNKNOWN, b -> b.howLikely(strange));
            refused("hire(" + strange + ", 0)", UNKNOWN, b -> b.hire(strange, 0));
            refused("hire(" + strange + ", 2)", UNKNOWN, b -> b.hire(strange, 2));
        }
        for (int strange : new int[] {-2, 4, 7, LEAST, MOST}) {
            refused("crumbs(" + strange + ")", UNKNOWN, b -> b.crumbs(strange));
        }
        for (int strange : new int[] {-1, 2, LEAST, MOST}) {
            refused("hire(0, " + strange + ")", OUTSIDE, b -> b.hire(0, strange));
        }
        for (int strange : new int[] {-1, 0, 8, LEAST, MOST}) {
            refused("bread(" + strange + ")", OUTSIDE, b -> b.bread(strange));
        }
    }

    private static void booksAndImages() {
        for (int strange : new int[] {-1, 3, 5, 6, LEAST, MOST}) {
            refused("write(" + strange + ", 0, 0)", UNKNOWN, b -> b.write(strange, 0, 0));
            refused("write(0, " + strange + ", 0)", UNKNOWN, b -> b.write(0, strange, 0));
            refused("write(" + strange + ", 0, 10)", UNKNOWN, b -> b.write(strange, 0, 10));
            refused("write(0, " + strange + ", -1)", UNKNOWN, b -> b.write(0, strange, -1));
        }
        for (int strange : new int[] {-1, 10, LEAST, MOST}) {
            refused("write(0, 0, " + strange + ")", OUTSIDE, b -> b.write(0, 0, strange));
        }
        for (int strange : new int[] {-1, -4711, LEAST}) {
            refused("seed(" + strange + ")", OUTSIDE, b -> b.seed(strange));
        }
        for (int strange : new int[] {-1, 2, 31, 32, 33, LEAST, MOST}) {
            refused("keep(" + strange + ")", UNKNOWN, b -> b.keep(strange));
            refused("goBack(" + strange + ")", UNKNOWN, b -> b.goBack(strange));
        }
    }

    /** FULL comes last of all. */
    private static void full() {
        made = RefusalTest::allFull;
        refused("feed: 240 letters", FULL, b -> b.feed(' '));
        refused("feed(0) of a full text", FULL, b -> b.feed(0));
        refused("feed(255) of a full text", FULL, b -> b.feed(255));
        refused("feed(256) of a full text", OUTSIDE, b -> b.feed(256));
        refused("feed(-1) of a full text", OUTSIDE, b -> b.feed(-1));
        refused("bite: eight", FULL, b -> b.bite(0));
        refused("bite(3), eight", UNKNOWN, b -> b.bite(3));
        refused("bite(-1), eight", UNKNOWN, b -> b.bite(-1));
        refused("write: fifteen", FULL, b -> b.write(0, 0, 0));
        refused("write(3, 0, 0), fifteen", UNKNOWN, b -> b.write(3, 0, 0));
        refused("write(0, 3, 10), fifteen", UNKNOWN, b -> b.write(0, 3, 10));
        refused("write(0, 0, 10), fifteen", OUTSIDE, b -> b.write(0, 0, 10));
        refused("write(0, 0, -1), fifteen", OUTSIDE, b -> b.write(0, 0, -1));
        made = RefusalTest::rich;
    }

    private static void noDreams() {
        made = SleptBread::new;
        refused("night(1), no dreams", NOT, b -> b.night(1));
        refused("night(30), no dreams", NOT, b -> b.night(30));
        refused("night(0), no dreams", OUTSIDE, b -> b.night(0));
        refused("night(31), no dreams", OUTSIDE, b -> b.night(31));
        made = RefusalTest::rich;
    }

    private static void notKept() {
        made = RefusalTest::unkept;
        refused("goBack(0), not kept", NOT, b -> b.goBack(0));
        refused("goBack(1), not kept", NOT, b -> b.goBack(1));
        refused("goBack(2), none kept", UNKNOWN, b -> b.goBack(2));
        refused("goBack(-1), none kept", UNKNOWN, b -> b.goBack(-1));
        made = RefusalTest::rich;
    }

    /** What answers only, and what is tried only, changes nothing either. */
    private static void withoutRefusal() {
        same("fault()", SleptBread::fault);
        same("mayBe()", SleptBread::mayBe);
        same("whose()", SleptBread::whose);
        same("settled()", SleptBread::settled);
        same("judge()", SleptBread::judge);
        for (int i = 0; i < 14; i++) {
            int what = i;
            same("told(" + what + ")", b -> b.told(what));
        }
        for (int i = 0; i < 3; i++) {
            int s = i;
            same("weight(" + s + ", 1)", b -> b.weight(s, 1));
            same("odds(" + s + ", 1, 0)", b -> b.odds(s, 1, 0));
            same("likeliest(" + s + ")", b -> b.likeliest(s));
            same("worth(3, " + s + ")", b -> b.worth(3, s));
            same("feedings(" + s + ", 1)", b -> b.feedings(s, 1));
            same("foretold(" + s + ", 2, 200)", b -> b.foretold(s, 2, 200));
            same("foretold(" + s + ", -1, 7)", b -> b.foretold(s, NONE, 7));
            same("howLikely(" + s + ")", b -> b.howLikely(s));
            same("hire(" + s + ", 0)", b -> b.hire(s, 0));
            same("hire(" + s + ", 1)", b -> b.hire(s, 1));
        }
        for (int i = -1; i < 4; i++) {
            int l = i;
            same("beds(" + l + ")", b -> b.beds(l));
            same("crumbs(" + l + ")", b -> b.crumbs(l));
        }
        for (int i = 1; i <= 7; i++) {
            int k = i;
            same("bread(" + k + ")", b -> b.bread(k));
        }
        same("awake(9, 0)", b -> b.awake(9, 0));
        same("awake(200, 1)", b -> b.awake(200, 1));
    }
}
