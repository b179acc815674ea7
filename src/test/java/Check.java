/** Compares answers with what is due, prints those that differ, and ends the program accordingly. */
final class Check {
    private final String name;
    private int asked;
    private int wrong;

    Check(String name) {
        this.name = name;
    }

    void due(String what, long got, long want) {
        asked++;
        if (got != want) {
            wrong++;
            System.out.println(name + ": " + what + " answered " + got + ", due is " + want);
        }
    }

    void holds(String what, boolean is) {
        due(what, is ? 1 : 0, 1);
    }

    int wrong() {
        return wrong;
    }

    void finish() {
        System.out.println(name + ": " + asked + " answers, " + wrong + " wrong");
        if (wrong != 0 || asked == 0) {
            System.exit(1);
        }
    }

    /** Feeds a text letter by letter. */
    static void feed(SleptBread bread, String text) {
        for (int i = 0; i < text.length(); i++) {
            bread.feed(text.charAt(i));
        }
    }

    /** A new object with a street told by a text. */
    static SleptBread street(String text) {
        SleptBread bread = new SleptBread();
        feed(bread, text);
        bread.street();
        return bread;
    }
}
