/** All that can be seen of an object, as one text: two objects that are alike show the same. */
final class Seen {
    private static final int LOAF_ROWS = 6;
    private static final int TOLD_ROWS = 14;

    /** Reads an object to its end: it goes back to its images and ends with its text becoming a street. */
    static String of(SleptBread b) {
        StringBuilder seen = new StringBuilder();
        now(b, seen);
        for (int image = 0; image < 2; image++) {
            seen.append(" image").append(image).append('=').append(b.goBack(image)).append(' ');
            state(b, seen);
        }
        seen.append(" text=").append(b.street()).append(' ').append(b.fault());
        return seen.toString();
    }

    private static void now(SleptBread b, StringBuilder seen) {
        seen.append("fault=").append(b.fault()).append(' ');
        seen.append("bites=").append(b.mayBe()).append(' ').append(b.whose()).append(' ');
        for (int s = 0; s < b.told(2); s++) {
            seen.append(b.howLikely(s)).append(' ');
        }
        seen.append("book=").append(b.judge()).append(' ');
        for (int what = 0; what < TOLD_ROWS; what++) {
            seen.append(b.told(what)).append(' ');
        }
        state(b, seen);
    }

    private static void state(SleptBread b, StringBuilder seen) {
        for (int s = 0; s < b.told(2); s++) {
            for (int d = 0; d < b.told(0); d++) {
                seen.append(b.weight(s, d)).append(' ');
            }
        }
        for (int l = 0; l < b.told(3); l++) {
            for (int what = 0; what < LOAF_ROWS; what++) {
                seen.append(b.loaf(l, what)).append(' ');
            }
        }
        seen.append(b.told(6)).append(' ').append(b.told(7)).append(' ').append(b.told(8)).append(' ');
        int seed = b.seed(0);
        b.seed(seed);
        seen.append("seed=").append(seed);
    }
}
