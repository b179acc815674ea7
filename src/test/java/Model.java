import java.util.ArrayList;
import java.util.List;

/**
 * The document once more, by the plainest means: all ways are gone through, nothing is kept that can be asked anew.
 * It serves to judge the class, so it shares no code with it.
 */
final class Model {
    static final int NONE = -1;
    static final int UNKNOWN = -1000000001;
    static final int OUTSIDE = -1000000002;
    static final int NOT = -1000000003;
    static final int FULL = -1000000004;

    /** A street and all that is so on it. */
    private static final class World {
        List<int[]> sleepers = new ArrayList<>();
        List<int[]> loaves = new ArrayList<>();
        int dreams;
        int gain;
        int nightmare;
        boolean[] awake = new boolean[6];
        int[] pillow = {NONE, NONE, NONE, NONE, NONE, NONE, NONE};
        int[] taste = {NONE, NONE, NONE, NONE, NONE, NONE, NONE};
        boolean[] salted = new boolean[7];
        int nights;
        int earned;
        long seed;

        World copy() {
            World w = new World();
            for (int[] sleeper : sleepers) {
                w.sleepers.add(sleeper.clone());
            }
            w.loaves = loaves;
            w.dreams = dreams;
            w.gain = gain;
            w.nightmare = nightmare;
            w.awake = awake.clone();
            w.pillow = pillow.clone();
            w.taste = taste.clone();
            w.salted = salted.clone();
            w.nights = nights;
            w.earned = earned;
            w.seed = seed;
            return w;
        }

        int sum(int s) {
            int sum = 0;
            for (int w : sleepers.get(s)) {
                sum += w;
            }
            return sum;
        }

        int top(int s) {
            int best = 0;
            for (int d = 0; d < dreams; d++) {
                if (sleepers.get(s)[d] > sleepers.get(s)[best]) {
                    best = d;
                }
            }
            return best;
        }

        long bid(int l, int s) {
            int[] loaf = loaves.get(l);
            return 1000000L * loaf[2] * sleepers.get(s)[loaf[1]] / sum(s);
        }

        boolean hasSleeper(int s) {
            return s >= 0 && s < sleepers.size();
        }

        boolean hasLoaf(int l) {
            return l >= 0 && l < loaves.size();
        }

        boolean hasDream(int d) {
            return d >= 0 && d < dreams;
        }
    }

    /** A FAULT of the text. */
    private static final class Fault extends Exception {
        private static final long serialVersionUID = 1;
        final int kind;
        final int place;

        Fault(int kind, int place) {
            super("fault");
            this.kind = kind;
            this.place = place;
        }
    }

    private String text = "";
    private int fault = NONE;
    private World now = new World();
    private final World[] images = new World[2];
    private final List<Integer> bites = new ArrayList<>();
    private final List<int[]> book = new ArrayList<>();

    // ---- the text: cut into tokens {kind, place, value, figures}, kind '0' for NUMBERS, 0 for the end

    private static List<int[]> tokens(String text) {
        List<int[]> all = new ArrayList<>();
        int i = 0;
        while (i < text.length()) {
            char c = text.charAt(i);
            int from = i;
            if (c >= '0' && c <= '9') {
                while (i < text.length() && text.charAt(i) >= '0' && text.charAt(i) <= '9') {
                    i++;
                }
                String figures = text.substring(from, i);
                int value = figures.length() > 3 ? -1 : Integer.parseInt(figures);
                all.add(new int[] {'0', from, value, figures.length()});
            } else {
                i++;
                if (c != ' ') {
                    // A sign of number 0 must not be taken for the end.
                    all.add(new int[] {c == 0 ? 1 : c, from, 0, 0});
                }
            }
        }
        all.add(new int[] {0, text.length(), 0, 0});
        return all;
    }

    private static World read(String text) throws Fault {
        List<int[]> tokens = tokens(text);
        World w = new World();
        boolean nightmare = false;
        int t = 0;
        while (tokens.get(t)[0] != 0) {
            int[] word = tokens.get(t);
            if ((t == 0 && word[0] != 'd') || "dsln".indexOf(word[0]) < 0) {
                throw new Fault(1, word[1]);
            }
            boolean often = (word[0] == 'd' && t > 0) || (word[0] == 'n' && nightmare)
                || (word[0] == 's' && w.sleepers.size() == 6) || (word[0] == 'l' && w.loaves.size() == 7);
            if (often) {
                throw new Fault(3, word[1]);
            }
            t++;
            if (word[0] == 'd') {
                w.dreams = number(tokens.get(t), 2, 5);
                w.gain = number(tokens.get(t + 1), 0, 5);
                t += 2;
            } else if (word[0] == 's') {
                t = readWeights(w, tokens, t);
            } else if (word[0] == 'l') {
                int e = number(tokens.get(t), 0, w.sleepers.size() - 1);
                int d = number(tokens.get(t + 1), 0, w.dreams - 1);
                int v = number(tokens.get(t + 2), 0, 99);
                w.loaves.add(new int[] {e, d, v});
                t += 3;
            } else {
                w.nightmare = number(tokens.get(t), 0, w.dreams - 1);
                nightmare = true;
                t++;
            }
            sign(tokens.get(t), ';');
            t++;
        }
        return w;
    }

    private static int readWeights(World w, List<int[]> tokens, int from) throws Fault {
        int t = from;
        int[] row = new int[w.dreams];
        int sum = 0;
        for (int d = 0; d < w.dreams; d++) {
            if (d > 0) {
                sign(tokens.get(t), ',');
                t++;
            }
            row[d] = number(tokens.get(t), 0, 9);
            sum += row[d];
            t++;
        }
        if (sum == 0) {
            throw new Fault(4, tokens.get(t - 1)[1]);
        }
        w.sleepers.add(row);
        return t;
    }

    private static int number(int[] token, int least, int most) throws Fault {
        if (token[0] != '0') {
            throw new Fault(1, token[1]);
        }
        if (token[3] > 3 || token[2] < least || token[2] > most) {
            throw new Fault(2, token[1]);
        }
        return token[2];
    }

    private static void sign(int[] token, int sign) throws Fault {
        if (token[0] != sign) {
            throw new Fault(1, token[1]);
        }
    }

    // ---- the street

    int feed(int letter) {
        if (letter < 0 || letter > 255) {
            return OUTSIDE;
        }
        if (text.length() == 240) {
            return FULL;
        }
        text += (char) letter;
        return text.length();
    }

    int street() {
        String all = text;
        text = "";
        try {
            World w = read(all);
            w.seed = now.seed;
            now = w;
        } catch (Fault f) {
            fault = f.place;
            return -10 - f.kind;
        }
        fault = NONE;
        bites.clear();
        book.clear();
        images[0] = null;
        images[1] = null;
        return now.sleepers.size();
    }

    int fault() {
        return fault;
    }

    int told(int what) {
        int awake = 0;
        int lying = 0;
        int sleptOn = 0;
        int salted = 0;
        for (int k = 0; k < 7; k++) {
            awake += k < 6 && now.awake[k] ? 1 << k : 0;
            lying += now.pillow[k] != NONE ? 1 << k : 0;
            sleptOn += now.taste[k] != NONE ? 1 << k : 0;
            salted += now.salted[k] ? 1 << k : 0;
        }
        int[] all = {now.dreams, now.gain, now.sleepers.size(), now.loaves.size(), now.nightmare, text.length(),
            now.nights, now.earned, awake, lying, sleptOn, salted, bites.size(), book.size()};
        return what < 0 || what >= all.length ? OUTSIDE : all[what];
    }

    int weight(int s, int d) {
        return now.hasSleeper(s) && now.hasDream(d) ? now.sleepers.get(s)[d] : UNKNOWN;
    }

    int odds(int s, int d, int part) {
        if (!now.hasSleeper(s) || !now.hasDream(d)) {
            return UNKNOWN;
        }
        if (part != 0 && part != 1) {
            return OUTSIDE;
        }
        int above = now.sleepers.get(s)[d];
        int below = now.sum(s);
        int shared = java.math.BigInteger.valueOf(above).gcd(java.math.BigInteger.valueOf(below)).intValue();
        return part == 0 ? above / shared : below / shared;
    }

    int likeliest(int s) {
        return now.hasSleeper(s) ? now.top(s) : UNKNOWN;
    }

    int loaf(int l, int what) {
        if (!now.hasLoaf(l)) {
            return UNKNOWN;
        }
        if (what < 0 || what > 5) {
            return OUTSIDE;
        }
        if (what < 3) {
            return now.loaves.get(l)[what];
        }
        return what == 3 ? now.pillow[l] : what == 4 ? now.taste[l] : now.salted[l] ? 1 : 0;
    }

    int worth(int l, int s) {
        if (!now.hasLoaf(l) || !now.hasSleeper(s)) {
            return UNKNOWN;
        }
        return now.loaves.get(l)[0] == s ? NOT : (int) now.bid(l, s);
    }

    // ---- what is done

    int lay(int l, int s) {
        if (!now.hasLoaf(l) || !now.hasSleeper(s)) {
            return UNKNOWN;
        }
        boolean may = now.taste[l] == NONE && now.pillow[l] == NONE && now.loaves.get(l)[0] != s;
        for (int p : now.pillow) {
            may &= p != s;
        }
        if (!may) {
            return NOT;
        }
        now.pillow[l] = s;
        return told(9);
    }

    int takeOff(int l) {
        if (!now.hasLoaf(l)) {
            return UNKNOWN;
        }
        int was = now.pillow[l];
        now.pillow[l] = NONE;
        return was == NONE ? NOT : was;
    }

    int wake(int s, boolean is) {
        if (!now.hasSleeper(s)) {
            return UNKNOWN;
        }
        int was = now.awake[s] ? 1 : 0;
        now.awake[s] = is;
        return was;
    }

    int night(int n) {
        if (n < 1 || n > 30) {
            return OUTSIDE;
        }
        if (now.dreams == 0) {
            return NOT;
        }
        if (now.nights > 90000) {
            return FULL;
        }
        for (int i = 0; i < n; i++) {
            for (int s = 0; s < now.sleepers.size(); s++) {
                if (!now.awake[s]) {
                    sleep(s);
                }
            }
            now.nights++;
        }
        return told(10);
    }

    private void sleep(int s) {
        now.seed = (now.seed * 1103515245L + 12345L) % (1L << 31);
        long left = now.seed / 65536 % now.sum(s);
        int dream = 0;
        while (left >= now.sleepers.get(s)[dream]) {
            left -= now.sleepers.get(s)[dream];
            dream++;
        }
        for (int l = 0; l < 7; l++) {
            if (now.pillow[l] == s) {
                now.pillow[l] = NONE;
                now.taste[l] = dream;
            }
        }
    }

    int eat(int l) {
        if (!now.hasLoaf(l)) {
            return UNKNOWN;
        }
        if (now.taste[l] == NONE) {
            return NOT;
        }
        int[] loaf = now.loaves.get(l);
        if (!now.salted[l]) {
            int[] row = now.sleepers.get(loaf[0]);
            row[now.taste[l]] = Math.min(9, row[now.taste[l]] + now.gain);
        }
        if (now.taste[l] == loaf[1]) {
            now.earned = Math.min(999999, now.earned + loaf[2]);
        }
        now.taste[l] = NONE;
        now.salted[l] = false;
        return now.earned;
    }

    int salt(int l) {
        if (!now.hasLoaf(l)) {
            return UNKNOWN;
        }
        int was = now.salted[l] ? 1 : 0;
        now.salted[l] = true;
        return was;
    }

    // ---- tried

    private long bestWorth;
    private int[] bestBeds;

    /** Goes through all ways in the order in which the first of like ones counts. */
    private void tryBeds(int l, long worth, int[] beds) {
        if (l == now.loaves.size()) {
            if (worth > bestWorth) {
                bestWorth = worth;
                bestBeds = beds.clone();
            }
            return;
        }
        beds[l] = NONE;
        tryBeds(l + 1, worth, beds);
        for (int s = 0; s < now.sleepers.size() && now.taste[l] == NONE; s++) {
            boolean free = !now.awake[s] && now.loaves.get(l)[0] != s;
            for (int other = 0; other < l; other++) {
                free &= beds[other] != s;
            }
            if (free) {
                beds[l] = s;
                tryBeds(l + 1, worth + now.bid(l, s), beds);
            }
        }
        beds[l] = NONE;
    }

    private int[] bedsOfNow() {
        bestWorth = -1;
        tryBeds(0, 0, new int[now.loaves.size()]);
        return bestBeds;
    }

    int beds(int l) {
        if (l != NONE && !now.hasLoaf(l)) {
            return UNKNOWN;
        }
        int[] beds = bedsOfNow();
        return l == NONE ? (int) bestWorth : beds[l];
    }

    int feedings(int s, int d) {
        if (!now.hasSleeper(s) || !now.hasDream(d)) {
            return UNKNOWN;
        }
        for (int k = 0; k < 100; k++) {
            World w = now.copy();
            w.sleepers.get(s)[d] = Math.min(9, w.sleepers.get(s)[d] + k * w.gain);
            if (w.top(s) == d) {
                return k;
            }
        }
        return NONE;
    }

    /** All nights one by one, though they settle. */
    private World future(int[] beds, int woken, int n) {
        World w = now.copy();
        for (int i = 0; i < n; i++) {
            World evening = w.copy();
            for (int l = 0; l < beds.length; l++) {
                if (beds[l] != NONE && (woken >> beds[l] & 1) == 0) {
                    int[] row = w.sleepers.get(w.loaves.get(l)[0]);
                    int dream = evening.top(beds[l]);
                    row[dream] = Math.min(9, row[dream] + w.gain);
                }
            }
        }
        return w;
    }

    int foretold(int s, int d, int n) {
        if (!now.hasSleeper(s) || (d != NONE && !now.hasDream(d))) {
            return UNKNOWN;
        }
        if (n < 0 || n > 200) {
            return OUTSIDE;
        }
        World w = future(bedsOfNow(), 0, n);
        return d == NONE ? w.top(s) : w.sleepers.get(s)[d];
    }

    int settled() {
        int[] beds = bedsOfNow();
        for (int n = 0; n <= 200; n++) {
            World w = future(beds, 0, n);
            World next = future(beds, 0, n + 1);
            boolean same = true;
            for (int s = 0; s < w.sleepers.size(); s++) {
                same &= java.util.Arrays.equals(w.sleepers.get(s), next.sleepers.get(s));
            }
            if (same) {
                return n;
            }
        }
        return NONE;
    }

    int awake(int n, int what) {
        if (n < 0 || n > 200 || (what != 0 && what != 1)) {
            return OUTSIDE;
        }
        int[] beds = bedsOfNow();
        int best = NONE;
        for (int set = 0; set < 1 << now.sleepers.size(); set++) {
            boolean more = true;
            for (int s = 0; s < now.sleepers.size(); s++) {
                more &= (set >> s & 1) == 0 || !now.awake[s];
            }
            if (more && (best == NONE || Integer.bitCount(set) < Integer.bitCount(best))) {
                World w = future(beds, set, n);
                boolean calm = true;
                for (int s = 0; s < w.sleepers.size(); s++) {
                    calm &= w.top(s) != w.nightmare;
                }
                best = calm ? set : best;
            }
        }
        return best == NONE ? NONE : what == 0 ? Integer.bitCount(best) : best;
    }

    // ---- bites, crumbs

    int bite(int d) {
        if (!now.hasDream(d)) {
            return UNKNOWN;
        }
        if (bites.size() == 8) {
            return FULL;
        }
        bites.add(d);
        return bites.size();
    }

    private long part(int s) {
        long part = 1000000000L;
        for (int d : bites) {
            part = part * now.sleepers.get(s)[d] / now.sum(s);
        }
        return part;
    }

    int mayBe() {
        int set = 0;
        for (int s = 0; s < now.sleepers.size(); s++) {
            boolean can = true;
            for (int d : bites) {
                can &= now.sleepers.get(s)[d] > 0;
            }
            set += can ? 1 << s : 0;
        }
        return set;
    }

    int whose() {
        int best = NONE;
        for (int s = now.sleepers.size() - 1; s >= 0; s--) {
            if (part(s) > 0 && (best == NONE || part(s) >= part(best))) {
                best = s;
            }
        }
        return best;
    }

    int howLikely(int s) {
        if (!now.hasSleeper(s)) {
            return UNKNOWN;
        }
        long sum = 0;
        for (int t = 0; t < now.sleepers.size(); t++) {
            sum += part(t);
        }
        return sum == 0 ? 0 : (int) (part(s) * 1000000 / sum);
    }

    private void tryCrumbs(int l, int[] who, List<int[]> ways) {
        if (l == now.loaves.size()) {
            ways.add(who.clone());
            return;
        }
        who[l] = NONE;
        if (now.taste[l] == NONE) {
            tryCrumbs(l + 1, who, ways);
            return;
        }
        for (int s = 0; s < now.sleepers.size(); s++) {
            boolean can = now.loaves.get(l)[0] != s && now.sleepers.get(s)[now.taste[l]] > 0;
            for (int other = 0; other < l; other++) {
                can &= who[other] != s;
            }
            if (can) {
                who[l] = s;
                tryCrumbs(l + 1, who, ways);
            }
        }
    }

    int crumbs(int l) {
        if (l != NONE && !now.hasLoaf(l)) {
            return UNKNOWN;
        }
        List<int[]> ways = new ArrayList<>();
        tryCrumbs(0, new int[now.loaves.size()], ways);
        if (l == NONE) {
            return ways.size();
        }
        int same = ways.isEmpty() ? NONE : ways.get(0)[l];
        for (int[] way : ways) {
            if (way[l] != same) {
                return NONE;
            }
        }
        return same;
    }

    int hire(int s, int what) {
        if (!now.hasSleeper(s)) {
            return UNKNOWN;
        }
        if (what != 0 && what != 1) {
            return OUTSIDE;
        }
        List<long[]> bids = new ArrayList<>();
        for (int l = 0; l < now.loaves.size(); l++) {
            if (now.taste[l] == NONE && now.loaves.get(l)[0] != s) {
                bids.add(new long[] {-now.bid(l, s), l});
            }
        }
        bids.sort((a, b) -> a[0] != b[0] ? Long.compare(a[0], b[0]) : Long.compare(a[1], b[1]));
        if (bids.isEmpty() || bids.get(0)[0] == 0) {
            return NONE;
        }
        return what == 0 ? (int) bids.get(0)[1] : bids.size() < 2 ? 0 : (int) -bids.get(1)[0];
    }

    int bread(int k) {
        if (k < 1 || k > 7) {
            return OUTSIDE;
        }
        long[] parts = new long[8];
        parts[0] = 1000000;
        for (int l = 0; l < now.loaves.size(); l++) {
            int s = now.pillow[l];
            if (s == NONE || now.awake[s]) {
                continue;
            }
            long[] next = new long[9];
            for (int many = 0; many < 8; many++) {
                long does = parts[many] * now.sleepers.get(s)[now.loaves.get(l)[1]] / now.sum(s);
                next[many + 1] += does;
                next[many] += parts[many] - does;
            }
            parts = java.util.Arrays.copyOf(next, 8);
        }
        long sum = 0;
        for (int many = k; many < 8; many++) {
            sum += parts[many];
        }
        return (int) sum;
    }

    // ---- books, images

    int write(int s, int d, int w) {
        if (!now.hasSleeper(s) || !now.hasDream(d)) {
            return UNKNOWN;
        }
        if (w < 0 || w > 9) {
            return OUTSIDE;
        }
        if (book.size() == 15) {
            return FULL;
        }
        book.add(new int[] {s, d, w});
        return book.size();
    }

    int tear() {
        int had = bites.size() + book.size();
        bites.clear();
        book.clear();
        return had;
    }

    int judge() {
        for (int i = 0; i < book.size(); i++) {
            if (now.sleepers.get(book.get(i)[0])[book.get(i)[1]] != book.get(i)[2]) {
                return i;
            }
        }
        return NONE;
    }

    int seed(int v) {
        if (v < 0) {
            return OUTSIDE;
        }
        int was = (int) now.seed;
        now.seed = v;
        return was;
    }

    int keep(int i) {
        if (i != 0 && i != 1) {
            return UNKNOWN;
        }
        images[i] = now.copy();
        return 1;
    }

    int goBack(int i) {
        if (i != 0 && i != 1) {
            return UNKNOWN;
        }
        if (images[i] == null) {
            return NOT;
        }
        now = images[i].copy();
        return 1;
    }
}
