import java.util.Random;

/** All promises: long runs of calls, by chance but always the same ones, answered by the class as by the model. */
final class ModelTest {
    private static final int RUNS = 1500;
    private static final int CALLS = 512;
    private static final int MOST_WRONG = 20;
    private static final Check CHECK = new Check("ModelTest");

    private final Random random;
    private final String name;
    private final SleptBread real = new SleptBread();
    private final Model model = new Model();
    private int calls;

    private ModelTest(int run) {
        random = new Random(run);
        name = "run " + run;
    }

    public static void main(String[] args) {
        for (int run = 0; run < RUNS && CHECK.wrong() < MOST_WRONG; run++) {
            new ModelTest(run).play();
        }
        CHECK.finish();
    }

    private void play() {
        tellStreet();
        while (calls < CALLS) {
            int kind = random.nextInt(100);
            if (kind < 1) {
                tellStreet();
            } else if (kind < 45) {
                doSomething();
            } else if (kind < 60) {
                askStreet();
            } else if (kind < 70) {
                trySomething();
            } else if (kind < 90) {
                askBites();
            } else {
                useBook();
            }
        }
    }

    private void due(String call, int got, int want) {
        calls++;
        CHECK.due(name + ", call " + calls + ": " + call, got, want);
    }

    private int below(int n) {
        return random.nextInt(n);
    }

    /** Mostly one that there may be, now and then one that there is not. */
    private int one(int usual) {
        int chance = below(40);
        return chance == 0 ? -1 : chance == 1 ? usual + below(3) : chance == 2 ? random.nextInt() : below(usual);
    }

    private int sleeper() {
        return one(Math.max(1, model.told(2)));
    }

    private int loaf() {
        return one(Math.max(1, model.told(3)));
    }

    private int dream() {
        return one(Math.max(1, model.told(0)));
    }

    // ---- texts

    private void tellStreet() {
        String text = below(60) == 0 ? "" : streetText();
        if (below(4) == 0) {
            text = spoil(text);
        }
        for (int i = 0; i < text.length() && calls < CALLS; i++) {
            due("feed(" + (int) text.charAt(i) + ")", real.feed(text.charAt(i)), model.feed(text.charAt(i)));
        }
        if (calls < CALLS) {
            due("street() of " + text, real.street(), model.street());
            due("fault() of " + text, real.fault(), model.fault());
        }
    }

    private String blank() {
        return below(12) == 0 ? " ".repeat(1 + below(2)) : "";
    }

    private String number(int value) {
        int zeros = below(25) == 0 ? 1 : 0;
        return "0".repeat(zeros) + value;
    }

    private String streetText() {
        int dreams = 2 + below(4);
        StringBuilder text = new StringBuilder(blank() + "d" + blank() + number(dreams) + " " + number(below(6)) + ";");
        int sleepers = below(8) == 0 ? below(8) : 2 + below(5);
        int loaves = below(8) == 0 ? below(9) : 2 + below(4);
        int mostWeight = below(2) == 0 ? 3 : 9;
        boolean nightmare = below(4) != 0;
        for (int s = 0; s < sleepers; s++) {
            text.append(blank()).append('s');
            for (int d = 0; d < dreams; d++) {
                String comma = d == 0 ? "" : ",";
                int weight = below(3) == 0 ? 0 : below(mostWeight + 1);
                text.append(blank()).append(comma).append(blank()).append(number(weight));
            }
            text.append(blank()).append(';');
            if (nightmare && below(4) == 0) {
                text.append('n').append(below(dreams)).append(';');
                nightmare = below(30) == 0;
            }
        }
        for (int l = 0; l < loaves; l++) {
            int eater = below(60) == 0 ? sleepers : below(Math.max(1, sleepers));
            int value = below(5) == 0 ? below(3) : 10 * below(10) + (below(2) == 0 ? 0 : below(10));
            text.append(blank()).append('l').append(number(eater)).append(' ').append(number(below(dreams)));
            text.append(' ').append(blank()).append(number(value)).append(blank()).append(';');
        }
        return text.toString();
    }

    /** One or two letters otherwise, or the end cut off. */
    private String spoil(String text) {
        String letters = "dsln;, 0123456789xD0009";
        StringBuilder spoilt = new StringBuilder(text);
        for (int times = 1 + below(2); times > 0 && spoilt.length() > 0; times--) {
            int at = below(spoilt.length());
            char letter = below(20) == 0 ? (char) below(256) : letters.charAt(below(letters.length()));
            int way = below(4);
            if (way == 0) {
                spoilt.deleteCharAt(at);
            } else if (way == 1) {
                spoilt.insert(at, letter);
            } else if (way == 2) {
                spoilt.setCharAt(at, letter);
            } else {
                spoilt.setLength(below(3) == 0 ? at : spoilt.length());
            }
        }
        return spoilt.toString();
    }

    // ---- calls

    private void doSomething() {
        int l = loaf();
        int s = sleeper();
        int kind = below(20);
        if (kind < 7) {
            due("lay(" + l + ", " + s + ")", real.lay(l, s), model.lay(l, s));
        } else if (kind < 8) {
            due("takeOff(" + l + ")", real.takeOff(l), model.takeOff(l));
        } else if (kind < 10) {
            boolean is = below(3) == 0;
            due("wake(" + s + ", " + is + ")", real.wake(s, is), model.wake(s, is));
        } else if (kind < 14) {
            int n = below(20) == 0 ? random.nextInt() : below(25) == 0 ? below(33) : 1 + below(2);
            due("night(" + n + ")", real.night(n), model.night(n));
        } else if (kind < 19) {
            due("eat(" + l + ")", real.eat(l), model.eat(l));
        } else {
            due("salt(" + l + ")", real.salt(l), model.salt(l));
        }
    }

    private void askStreet() {
        int s = sleeper();
        int d = dream();
        int l = loaf();
        int what = one(14);
        int of = one(6);
        int part = one(2);
        switch (below(6)) {
            case 0:
                due("told(" + what + ")", real.told(what), model.told(what));
                break;
            case 1:
                due("weight(" + s + ", " + d + ")", real.weight(s, d), model.weight(s, d));
                break;
            case 2:
                due("odds(" + s + ", " + d + ", " + part + ")", real.odds(s, d, part), model.odds(s, d, part));
                break;
            case 3:
                due("likeliest(" + s + ")", real.likeliest(s), model.likeliest(s));
                break;
            case 4:
                due("loaf(" + l + ", " + of + ")", real.loaf(l, of), model.loaf(l, of));
                break;
            default:
                due("worth(" + l + ", " + s + ")", real.worth(l, s), model.worth(l, s));
        }
    }

    private void trySomething() {
        int s = sleeper();
        int d = below(3) == 0 ? -1 : dream();
        int l = below(3) == 0 ? -1 : loaf();
        int n = below(30) == 0 ? random.nextInt() : below(10) == 0 ? below(203) : below(12);
        int part = one(2);
        switch (below(5)) {
            case 0:
                due("beds(" + l + ")", real.beds(l), model.beds(l));
                break;
            case 1:
                due("feedings(" + s + ", " + d + ")", real.feedings(s, d), model.feedings(s, d));
                break;
            case 2:
                due("foretold(" + s + ", " + d + ", " + n + ")", real.foretold(s, d, n), model.foretold(s, d, n));
                break;
            case 3:
                due("settled()", real.settled(), model.settled());
                break;
            default:
                due("awake(" + n + ", " + part + ")", real.awake(n, part), model.awake(n, part));
        }
    }

    private void askBites() {
        int s = sleeper();
        int d = dream();
        int l = below(3) == 0 ? -1 : loaf();
        int k = below(20) == 0 ? random.nextInt() : below(9);
        int part = one(2);
        switch (below(8)) {
            case 0:
                due("bite(" + d + ")", real.bite(d), model.bite(d));
                break;
            case 1:
                due("mayBe()", real.mayBe(), model.mayBe());
                break;
            case 2:
                due("whose()", real.whose(), model.whose());
                break;
            case 3:
                due("howLikely(" + s + ")", real.howLikely(s), model.howLikely(s));
                break;
            case 4:
            case 5:
                due("crumbs(" + l + ")", real.crumbs(l), model.crumbs(l));
                break;
            case 6:
                due("hire(" + s + ", " + part + ")", real.hire(s, part), model.hire(s, part));
                break;
            default:
                due("bread(" + k + ")", real.bread(k), model.bread(k));
        }
    }

    private void useBook() {
        int s = sleeper();
        int d = dream();
        int i = one(2);
        int v = random.nextInt() & (below(10) == 0 ? -1 : Integer.MAX_VALUE);
        int w = below(20) == 0 ? below(13) - 1 : Math.max(0, model.weight(s, d)) + (below(8) == 0 ? 1 : 0);
        switch (below(8)) {
            case 0:
            case 1:
                due("write(" + s + ", " + d + ", " + w + ")", real.write(s, d, w), model.write(s, d, w));
                break;
            case 2:
                if (below(4) == 0) {
                    due("tear()", real.tear(), model.tear());
                }
                break;
            case 3:
            case 4:
                due("judge()", real.judge(), model.judge());
                break;
            case 5:
                due("seed(" + v + ")", real.seed(v), model.seed(v));
                break;
            case 6:
                due("keep(" + i + ")", real.keep(i), model.keep(i));
                break;
            default:
                due("goBack(" + i + ")", real.goBack(i), model.goBack(i));
        }
    }
}
