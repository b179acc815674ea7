import java.util.Random;

/** 'For any arguments in any state': every call with every strange number at every place, as the model answers it. */
final class StrangeTest {
    private static final Check CHECK = new Check("StrangeTest");
    private static final int[] NUMBERS = {Integer.MIN_VALUE, Integer.MIN_VALUE + 1, SleptBread.FULL, SleptBread.UNKNOWN,
        -1000000000, -65536, -257, -256, -33, -32, -10, -3, -2, -1, 0, 1, 2, 3, 4, 5, 6, 7, 8, 9, 10, 11, 13, 14, 15, 16, 29,
        30, 31, 32, 33, 63, 64, 65, 127, 128, 199, 200, 201, 202, 239, 240, 241, 255, 256, 257, 511, 512, 65535, 65536,
        90001, 1000000, 1 << 30, Integer.MAX_VALUE - 1, Integer.MAX_VALUE};
    private static final String[] TEXTS = {"", "d2 0;", "d5 5;s1,2,3,4,5;", "d2 1;s1,3;s2,2;s3,0;l0 1 40;l1 0 10;l2 1 8;n1;",
        "d3 2;s1,3,0;s2,2,2;s0,0,5;s9,9,9;l0 1 40;l1 0 10;l2 1 8;l0 2 7;n2;", "d2 3;s0,1;l0 0 9;", "x"};

    private final SleptBread real = new SleptBread();
    private final Model model = new Model();
    private final Random random;
    private final String text;

    private StrangeTest(String text, int seed) {
        this.text = text;
        random = new Random(seed);
    }

    public static void main(String[] args) {
        for (int i = 0; i < TEXTS.length; i++) {
            new StrangeTest(TEXTS[i], i).play();
        }
        CHECK.finish();
    }

    private void due(String call, int got, int want) {
        CHECK.due("on '" + text + "': " + call, got, want);
    }

    private void play() {
        for (int i = 0; i < text.length(); i++) {
            due("feed", real.feed(text.charAt(i)), model.feed(text.charAt(i)));
        }
        due("street", real.street(), model.street());
        withoutNumbers();
        for (int x : NUMBERS) {
            oneNumber(x);
            for (int y : NUMBERS) {
                twoNumbers(x, y);
                for (int times = 0; times < 3; times++) {
                    threeNumbers(x, y, NUMBERS[random.nextInt(NUMBERS.length)]);
                }
            }
            withoutNumbers();
        }
        withoutNumbers();
    }

    private void withoutNumbers() {
        due("fault()", real.fault(), model.fault());
        due("settled()", real.settled(), model.settled());
        due("mayBe()", real.mayBe(), model.mayBe());
        due("whose()", real.whose(), model.whose());
        due("judge()", real.judge(), model.judge());
    }

    private void oneNumber(int x) {
        String of = "(" + x + ")";
        due("feed" + of, real.feed(x), model.feed(x));
        due("told" + of, real.told(x), model.told(x));
        due("likeliest" + of, real.likeliest(x), model.likeliest(x));
        due("beds" + of, real.beds(x), model.beds(x));
        due("bite" + of, real.bite(x), model.bite(x));
        due("howLikely" + of, real.howLikely(x), model.howLikely(x));
        due("crumbs" + of, real.crumbs(x), model.crumbs(x));
        due("bread" + of, real.bread(x), model.bread(x));
        due("seed" + of, real.seed(x), model.seed(x));
        due("keep" + of, real.keep(x), model.keep(x));
        due("night" + of, real.night(x), model.night(x));
        due("salt" + of, real.salt(x), model.salt(x));
        due("eat" + of, real.eat(x), model.eat(x));
        due("takeOff" + of, real.takeOff(x), model.takeOff(x));
        due("goBack" + of, real.goBack(x), model.goBack(x));
        due("wake true" + of, real.wake(x, true), model.wake(x, true));
        due("wake false" + of, real.wake(x, false), model.wake(x, false));
    }

    private void twoNumbers(int x, int y) {
        String of = "(" + x + ", " + y + ")";
        due("weight" + of, real.weight(x, y), model.weight(x, y));
        due("loaf" + of, real.loaf(x, y), model.loaf(x, y));
        due("worth" + of, real.worth(x, y), model.worth(x, y));
        due("lay" + of, real.lay(x, y), model.lay(x, y));
        due("feedings" + of, real.feedings(x, y), model.feedings(x, y));
        due("awake" + of, real.awake(x, y), model.awake(x, y));
        due("hire" + of, real.hire(x, y), model.hire(x, y));
        due("bread behind it" + of, real.bread(1), model.bread(1));
    }

    private void threeNumbers(int x, int y, int z) {
        String of = "(" + x + ", " + y + ", " + z + ")";
        due("odds" + of, real.odds(x, y, z), model.odds(x, y, z));
        due("foretold" + of, real.foretold(x, y, z), model.foretold(x, y, z));
        due("write" + of, real.write(x, y, z), model.write(x, y, z));
    }
}
