import java.util.Arrays;

/** A street in which no loaf may be eaten till somebody has slept on it. */
public final class SleptBread {
    public static final int NONE = -1, UNKNOWN = -1000000001, OUTSIDE = -1000000002, NOT = -1000000003, FULL = -1000000004;

    private static final int MOST_LETTERS = 240;
    private static final int MOST_LETTER = 255;
    private static final int MOST_DREAMS = 5;
    private static final int MOST_SLEEPERS = 6;
    private static final int MOST_LOAVES = 7;
    private static final int MOST_WEIGHT = 9;
    private static final int MOST_BITES = 8;
    private static final int MOST_ENTRIES = 15;
    private static final int MOST_EARNED = 999999;
    private static final int MOST_FORETOLD = 200;
    private static final int MOST_NIGHTS_A_CALL = 30;
    private static final int LAST_NIGHT = 90000;
    private static final int IMAGES = 2;
    private static final int SLEEPER_SETS = 1 << MOST_SLEEPERS;
    private static final int MILLION = 1000000;

    private final Text text;
    private final Told told;
    private final State now;
    private final State[] images;
    private final Beds bedding;
    private final Forecast forecast;
    private final Bites bites;
    private final Crumbs crumbs;
    private final Tonight tonight;
    private final Book book;
    private int kept;
    private int faultAt;

    public SleptBread() {
        text = new Text();
        told = new Told();
        now = new State();
        images = new State[] {new State(), new State()};
        bedding = new Beds();
        forecast = new Forecast();
        bites = new Bites();
        crumbs = new Crumbs();
        tonight = new Tonight();
        book = new Book();
        kept = 0;
        faultAt = NONE;
    }

    // ---- the street

    public int feed(int letter) {
        if (letter < 0 || letter > MOST_LETTER) {
            return OUTSIDE;
        }
        return text.add(letter) ? text.length : FULL;
    }

    public int street() {
        int kind = text.parse();
        faultAt = text.faultAt;
        text.length = 0;
        if (kind != 0) {
            return -10 - kind;
        }
        told.become(text.draft);
        now.begin(told);
        bites.count = 0;
        book.count = 0;
        kept = 0;
        return told.sleepers;
    }

    public int fault() {
        return faultAt;
    }

    public int told(int what) {
        switch (what) {
            case 0: return told.dreams;
            case 1: return told.gain;
            case 2: return told.sleepers;
            case 3: return told.loaves;
            case 4: return told.nightmare;
            case 5: return text.length;
            case 6: return now.nights;
            case 7: return now.earned;
            case 8: return now.awake;
            case 9: return now.lyingSet();
            case 10: return now.sleptOnSet();
            case 11: return now.salted;
            case 12: return bites.count;
            case 13: return book.count;
            default: return OUTSIDE;
        }
    }

    public int weight(int s, int d) {
        if (!told.hasSleeper(s) || !told.hasDream(d)) {
            return UNKNOWN;
        }
        return now.weights.of(s, d);
    }

    public int odds(int s, int d, int part) {
        if (!told.hasSleeper(s) || !told.hasDream(d)) {
            return UNKNOWN;
        }
        if (part < 0 || part > 1) {
            return OUTSIDE;
        }
        int above = now.weights.of(s, d);
        int below = now.weights.all(s);
        int shared = greatestShared(above, below);
        return (part == 0 ? above : below) / shared;
    }

    public int likeliest(int s) {
        return told.hasSleeper(s) ? now.weights.top(s) : UNKNOWN;
    }

    public int loaf(int l, int what) {
        if (!told.hasLoaf(l)) {
            return UNKNOWN;
        }
        switch (what) {
            case 0: return told.eater[l];
            case 1: return told.wanted[l];
            case 2: return told.value[l];
            case 3: return now.pillow[l];
            case 4: return now.taste[l];
            case 5: return bit(now.salted, l);
            default: return OUTSIDE;
        }
    }

    public int worth(int l, int s) {
        if (!told.hasLoaf(l) || !told.hasSleeper(s)) {
            return UNKNOWN;
        }
        return told.eater[l] == s ? NOT : now.worthOn(told, l, s);
    }

    // ---- what is done

    public int lay(int l, int s) {
        if (!told.hasLoaf(l) || !told.hasSleeper(s)) {
            return UNKNOWN;
        }
        boolean free = now.isFresh(l) && now.pillow[l] == NONE;
        if (!free || told.eater[l] == s || now.loafOn(s) != NONE) {
            return NOT;
        }
        now.pillow[l] = s;
        return now.lyingSet();
    }

    public int takeOff(int l) {
        if (!told.hasLoaf(l)) {
            return UNKNOWN;
        }
        int was = now.pillow[l];
        if (was == NONE) {
            return NOT;
        }
        now.pillow[l] = NONE;
        return was;
    }

    public int wake(int s, boolean is) {
        if (!told.hasSleeper(s)) {
            return UNKNOWN;
        }
        int was = bit(now.awake, s);
        now.awake = is ? now.awake | 1 << s : now.awake & ~(1 << s);
        return was;
    }

    public int night(int n) {
        if (n < 1 || n > MOST_NIGHTS_A_CALL) {
            return OUTSIDE;
        }
        if (told.dreams == 0) {
            return NOT;
        }
        if (now.nights > LAST_NIGHT) {
            return FULL;
        }
        for (int i = 0; i < n; i++) {
            now.sleepOnce(told);
        }
        return now.sleptOnSet();
    }

    public int eat(int l) {
        if (!told.hasLoaf(l)) {
            return UNKNOWN;
        }
        if (now.isFresh(l)) {
            return NOT;
        }
        now.consume(told, l);
        return now.earned;
    }

    public int salt(int l) {
        if (!told.hasLoaf(l)) {
            return UNKNOWN;
        }
        int was = bit(now.salted, l);
        now.salted |= 1 << l;
        return was;
    }

    // ---- tried

    public int beds(int l) {
        if (l != NONE && !told.hasLoaf(l)) {
            return UNKNOWN;
        }
        bedding.make(told, now);
        return l == NONE ? bedding.most : bedding.bedOf[l];
    }

    public int feedings(int s, int d) {
        if (!told.hasSleeper(s) || !told.hasDream(d)) {
            return UNKNOWN;
        }
        return forecast.fewestLoaves(told, now, s, d);
    }

    public int foretold(int s, int d, int n) {
        if (!told.hasSleeper(s) || (d != NONE && !told.hasDream(d))) {
            return UNKNOWN;
        }
        if (n < 0 || n > MOST_FORETOLD) {
            return OUTSIDE;
        }
        bedding.make(told, now);
        forecast.run(told, now, bedding, 0, n);
        return d == NONE ? forecast.weights.top(s) : forecast.weights.of(s, d);
    }

    public int settled() {
        bedding.make(told, now);
        // One night more than the last that may settle: it must be seen to change nothing.
        int changing = forecast.run(told, now, bedding, 0, MOST_FORETOLD + 1);
        return changing <= MOST_FORETOLD ? changing : NONE;
    }

    public int awake(int n, int what) {
        if (n < 0 || n > MOST_FORETOLD || what < 0 || what > 1) {
            return OUTSIDE;
        }
        int set = fewestWoken(n);
        return set == NONE || what == 1 ? set : Integer.bitCount(set);
    }

    // ---- bites, crumbs

    public int bite(int d) {
        if (!told.hasDream(d)) {
            return UNKNOWN;
        }
        return bites.add(d) ? bites.count : FULL;
    }

    public int mayBe() {
        return bites.possible(told, now.weights);
    }

    public int whose() {
        return bites.greatest(told, now.weights);
    }

    public int howLikely(int s) {
        return told.hasSleeper(s) ? bites.share(told, now.weights, s) : UNKNOWN;
    }

    public int crumbs(int l) {
        if (l != NONE && !told.hasLoaf(l)) {
            return UNKNOWN;
        }
        return l == NONE ? crumbs.ways(told, now, NONE, NONE) : crumbs.sureBed(told, now, l);
    }

    public int hire(int s, int what) {
        if (!told.hasSleeper(s)) {
            return UNKNOWN;
        }
        if (what < 0 || what > 1) {
            return OUTSIDE;
        }
        int winner = NONE;
        int first = 0;
        int second = 0;
        for (int l = 0; l < told.loaves; l++) {
            int bid = now.isFresh(l) && told.eater[l] != s ? now.worthOn(told, l, s) : 0;
            if (bid > first) {
                second = first;
                first = bid;
                winner = l;
            } else if (bid > second) {
                second = bid;
            }
        }
        return winner == NONE || what == 0 ? winner : second;
    }

    public int bread(int k) {
        return k < 1 || k > MOST_LOAVES ? OUTSIDE : tonight.atLeast(told, now, k);
    }

    // ---- books, images

    public int write(int s, int d, int w) {
        if (!told.hasSleeper(s) || !told.hasDream(d)) {
            return UNKNOWN;
        }
        if (w < 0 || w > MOST_WEIGHT) {
            return OUTSIDE;
        }
        return book.add(s, d, w) ? book.count : FULL;
    }

    public int tear() {
        int had = bites.count + book.count;
        bites.count = 0;
        book.count = 0;
        return had;
    }

    public int judge() {
        return book.firstWrong(now.weights);
    }

    public int seed(int v) {
        if (v < 0) {
            return OUTSIDE;
        }
        int was = now.seed;
        now.seed = v;
        return was;
    }

    public int keep(int i) {
        if (i < 0 || i >= IMAGES) {
            return UNKNOWN;
        }
        images[i].become(now);
        kept |= 1 << i;
        return 1;
    }

    public int goBack(int i) {
        if (i < 0 || i >= IMAGES) {
            return UNKNOWN;
        }
        if (bit(kept, i) == 0) {
            return NOT;
        }
        now.become(images[i]);
        return 1;
    }

    private int fewestWoken(int n) {
        bedding.make(told, now);
        int sets = 1 << told.sleepers;
        for (int many = 0; many <= told.sleepers; many++) {
            for (int set = 0; set < sets; set++) {
                // Nothing changes by waking one on whose pillow nothing lies: the fewest never have him.
                boolean fits = Integer.bitCount(set) == many && (set & ~bedding.used) == 0;
                if (fits && staysCalm(n, set)) {
                    return set;
                }
            }
        }
        return NONE;
    }

    private boolean staysCalm(int n, int woken) {
        forecast.run(told, now, bedding, woken, n);
        for (int s = 0; s < told.sleepers; s++) {
            if (forecast.weights.top(s) == told.nightmare) {
                return false;
            }
        }
        return true;
    }

    private static int bit(int set, int k) {
        return set >> k & 1;
    }

    /** The greatest number that divides both; 1 too if there is nothing to divide. */
    private static int greatestShared(int above, int below) {
        for (int k = below; k > 1; k--) {
            if (above % k == 0 && below % k == 0) {
                return k;
            }
        }
        return 1;
    }

    /** WEIGHTS of all SLEEPERS; those of DREAMS that there are not stay 0, so no sum or greatest minds them. */
    private static final class Weights {
        private final int[] cells = new int[MOST_SLEEPERS * MOST_DREAMS];

        int of(int s, int d) {
            boolean there = s >= 0 && s < MOST_SLEEPERS && d >= 0 && d < MOST_DREAMS;
            return there ? cells[s * MOST_DREAMS + d] : 0;
        }

        void put(int s, int d, int w) {
            if (s >= 0 && s < MOST_SLEEPERS && d >= 0 && d < MOST_DREAMS) {
                cells[s * MOST_DREAMS + d] = w;
            }
        }

        int all(int s) {
            int sum = 0;
            if (s >= 0 && s < MOST_SLEEPERS) {
                for (int d = 0; d < MOST_DREAMS; d++) {
                    sum += cells[s * MOST_DREAMS + d];
                }
            }
            return sum;
        }

        /** LIKELIEST. */
        int top(int s) {
            int best = 0;
            if (s >= 0 && s < MOST_SLEEPERS) {
                int row = s * MOST_DREAMS;
                for (int d = 1; d < MOST_DREAMS; d++) {
                    if (cells[row + d] > cells[row + best]) {
                        best = d;
                    }
                }
            }
            return best;
        }

        /** Makes a DREAM heavier: whether its WEIGHT changed. */
        boolean grow(int s, int d, int by) {
            int was = of(s, d);
            int is = Math.min(MOST_WEIGHT, was + by);
            put(s, d, is);
            return is != was;
        }

        void become(Weights other) {
            System.arraycopy(other.cells, 0, cells, 0, cells.length);
        }

        void clear() {
            Arrays.fill(cells, 0);
        }
    }

    /** What a text tells: nothing but another text changes it. */
    private static final class Told {
        int dreams;
        int gain;
        int sleepers;
        int loaves;
        int nightmare;
        final Weights weights = new Weights();
        final int[] eater = new int[MOST_LOAVES];
        final int[] wanted = new int[MOST_LOAVES];
        final int[] value = new int[MOST_LOAVES];

        boolean hasDream(int d) {
            return d >= 0 && d < dreams;
        }

        boolean hasSleeper(int s) {
            return s >= 0 && s < sleepers;
        }

        boolean hasLoaf(int l) {
            return l >= 0 && l < loaves;
        }

        void clear() {
            dreams = 0;
            gain = 0;
            sleepers = 0;
            loaves = 0;
            nightmare = 0;
            weights.clear();
        }

        void become(Told other) {
            dreams = other.dreams;
            gain = other.gain;
            sleepers = other.sleepers;
            loaves = other.loaves;
            nightmare = other.nightmare;
            weights.become(other.weights);
            System.arraycopy(other.eater, 0, eater, 0, MOST_LOAVES);
            System.arraycopy(other.wanted, 0, wanted, 0, MOST_LOAVES);
            System.arraycopy(other.value, 0, value, 0, MOST_LOAVES);
        }
    }

    /** THE TEXT and its reading; the first FAULT stops the reading, so nothing behind it can take its place. */
    private static final class Text {
        private static final int MISPLACED = 1;
        private static final int BAD_NUMBER = 2;
        private static final int TOO_OFTEN = 3;
        private static final int ALL_ZERO = 4;
        private static final int MOST_FIGURES = 3;
        private static final int MOST_VALUE = 99;

        int length;
        int faultAt = NONE;
        final Told draft = new Told();
        private final int[] letters = new int[MOST_LETTERS];
        private int at;
        private int faultKind;
        private int numberAt;
        private boolean nightmareTold;

        boolean add(int letter) {
            if (length >= MOST_LETTERS) {
                return false;
            }
            letters[length] = letter;
            length++;
            return true;
        }

        /** Reads all into the draft: the number of the FAULT, 0 if there is none. */
        int parse() {
            draft.clear();
            at = 0;
            faultKind = 0;
            faultAt = NONE;
            nightmareTold = false;
            skipBlanks();
            for (int clause = 0; clause < MOST_LETTERS && at < length && faultKind == 0; clause++) {
                readClause(letters[at]);
                skipBlanks();
            }
            return faultKind;
        }

        private void readClause(int word) {
            if (draft.dreams == 0 && word != 'd') {
                fail(MISPLACED, at);
                return;
            }
            switch (word) {
                case 'd':
                    readDreams();
                    break;
                case 's':
                    readSleeper();
                    break;
                case 'l':
                    readLoaf();
                    break;
                case 'n':
                    readNightmare();
                    break;
                default:
                    fail(MISPLACED, at);
            }
        }

        private void readDreams() {
            passWord(draft.dreams == 0);
            draft.dreams = readNumber(2, MOST_DREAMS);
            draft.gain = readNumber(0, 5);
            readSign(';');
        }

        private void readSleeper() {
            passWord(draft.sleepers < MOST_SLEEPERS);
            for (int d = 0; d < draft.dreams && faultKind == 0; d++) {
                if (d > 0) {
                    readSign(',');
                }
                draft.weights.put(draft.sleepers, d, readNumber(0, MOST_WEIGHT));
            }
            // Told at the last W, so it goes ahead of what may be wrong behind it.
            if (draft.weights.all(draft.sleepers) == 0) {
                fail(ALL_ZERO, numberAt);
            }
            readSign(';');
            if (faultKind == 0) {
                draft.sleepers++;
            }
        }

        private void readLoaf() {
            passWord(draft.loaves < MOST_LOAVES);
            int eater = readNumber(0, draft.sleepers - 1);
            int wanted = readNumber(0, draft.dreams - 1);
            int value = readNumber(0, MOST_VALUE);
            readSign(';');
            if (faultKind == 0 && draft.loaves < MOST_LOAVES) {
                draft.eater[draft.loaves] = eater;
                draft.wanted[draft.loaves] = wanted;
                draft.value[draft.loaves] = value;
                draft.loaves++;
            }
        }

        private void readNightmare() {
            passWord(!nightmareTold);
            draft.nightmare = readNumber(0, draft.dreams - 1);
            readSign(';');
            nightmareTold = true;
        }

        private void passWord(boolean allowed) {
            if (!allowed) {
                fail(TOO_OFTEN, at);
            }
            at++;
        }

        private int readNumber(int least, int most) {
            if (faultKind != 0) {
                return 0;
            }
            skipBlanks();
            numberAt = at;
            int value = 0;
            while (at < length && isFigure(letters[at])) {
                // More figures are a FAULT whatever they say: leaving them out keeps the value small.
                if (at - numberAt < MOST_FIGURES) {
                    value = value * 10 + letters[at] - '0';
                }
                at++;
            }
            int figures = at - numberAt;
            if (figures == 0) {
                fail(MISPLACED, numberAt);
            } else if (figures > MOST_FIGURES || value < least || value > most) {
                fail(BAD_NUMBER, numberAt);
            }
            return value;
        }

        private void readSign(int sign) {
            if (faultKind != 0) {
                return;
            }
            skipBlanks();
            if (at < length && letters[at] == sign) {
                at++;
            } else {
                fail(MISPLACED, at);
            }
        }

        private void skipBlanks() {
            while (at < length && letters[at] == ' ') {
                at++;
            }
        }

        private void fail(int kind, int place) {
            if (faultKind == 0) {
                faultKind = kind;
                faultAt = place;
            }
        }

        private static boolean isFigure(int letter) {
            return letter >= '0' && letter <= '9';
        }
    }

    /** All that calls change on a street, and all that an IMAGE keeps. */
    private static final class State {
        final Weights weights = new Weights();
        final int[] pillow = new int[MOST_LOAVES];
        final int[] taste = new int[MOST_LOAVES];
        int salted;
        int awake;
        int nights;
        int earned;
        int seed;

        State() {
            Arrays.fill(pillow, NONE);
            Arrays.fill(taste, NONE);
        }

        /** A street just told; THE SEED stays. */
        void begin(Told told) {
            weights.become(told.weights);
            Arrays.fill(pillow, NONE);
            Arrays.fill(taste, NONE);
            salted = 0;
            awake = 0;
            nights = 0;
            earned = 0;
        }

        void become(State other) {
            weights.become(other.weights);
            System.arraycopy(other.pillow, 0, pillow, 0, MOST_LOAVES);
            System.arraycopy(other.taste, 0, taste, 0, MOST_LOAVES);
            salted = other.salted;
            awake = other.awake;
            nights = other.nights;
            earned = other.earned;
            seed = other.seed;
        }

        boolean isFresh(int l) {
            return taste[l] == NONE;
        }

        boolean isAwake(int s) {
            return (awake >> s & 1) == 1;
        }

        int loafOn(int s) {
            for (int l = 0; l < MOST_LOAVES; l++) {
                if (pillow[l] == s) {
                    return l;
                }
            }
            return NONE;
        }

        int lyingSet() {
            return setOf(pillow);
        }

        int sleptOnSet() {
            return setOf(taste);
        }

        int worthOn(Told told, int l, int s) {
            int all = weights.all(s);
            if (all <= 0) {
                return 0;
            }
            return MILLION * told.value[l] * weights.of(s, told.wanted[l]) / all;
        }

        void sleepOnce(Told told) {
            for (int s = 0; s < told.sleepers; s++) {
                if (!isAwake(s)) {
                    int dream = drawDream(s);
                    int l = loafOn(s);
                    if (l != NONE) {
                        taste[l] = dream;
                        pillow[l] = NONE;
                    }
                }
            }
            nights++;
        }

        void consume(Told told, int l) {
            if ((salted >> l & 1) == 0) {
                weights.grow(told.eater[l], taste[l], told.gain);
            }
            if (taste[l] == told.wanted[l]) {
                earned = Math.min(MOST_EARNED, earned + told.value[l]);
            }
            taste[l] = NONE;
            salted &= ~(1 << l);
        }

        private int drawDream(int s) {
            int drawn = draw(weights.all(s));
            int sum = 0;
            for (int d = 0; d < MOST_DREAMS; d++) {
                sum += weights.of(s, d);
                if (sum > drawn) {
                    return d;
                }
            }
            return 0;
        }

        private int draw(int n) {
            seed = (int) (seed * 1103515245L + 12345L & 0x7fffffffL);
            return n > 0 ? seed / 65536 % n : 0;
        }

        private static int setOf(int[] row) {
            int set = 0;
            for (int l = 0; l < row.length; l++) {
                if (row[l] != NONE) {
                    set |= 1 << l;
                }
            }
            return set;
        }
    }

    /** BEDS, exactly: the best of LOAVES from one on, for every SET of SLEEPERS that is taken already. */
    private static final class Beds {
        int most;
        int used;
        final int[] bedOf = new int[MOST_LOAVES];
        private final int[] worths = new int[MOST_SLEEPERS];
        private final int[] best = new int[(MOST_LOAVES + 1) * SLEEPER_SETS];

        void make(Told told, State now) {
            int sets = 1 << told.sleepers;
            for (int taken = 0; taken < sets; taken++) {
                best[told.loaves * SLEEPER_SETS + taken] = 0;
            }
            for (int l = told.loaves - 1; l >= 0; l--) {
                fillWorths(told, now, l);
                for (int taken = 0; taken < sets; taken++) {
                    best[l * SLEEPER_SETS + taken] = bestFrom(told, l, taken);
                }
            }
            // Who is AWAKE has his pillow taken from the first.
            most = best[now.awake];
            follow(told, now);
        }

        /** Walks along the best ways, at each LOAF by the first choice that loses nothing. */
        private void follow(Told told, State now) {
            int taken = now.awake;
            for (int l = 0; l < told.loaves; l++) {
                fillWorths(told, now, l);
                bedOf[l] = firstBed(told, l, taken);
                if (bedOf[l] != NONE) {
                    taken |= 1 << bedOf[l];
                }
            }
            used = taken & ~now.awake;
        }

        private int bestFrom(Told told, int l, int taken) {
            int greatest = best[(l + 1) * SLEEPER_SETS + taken];
            for (int s = 0; s < told.sleepers; s++) {
                greatest = Math.max(greatest, bestOn(l, s, taken));
            }
            return greatest;
        }

        private int firstBed(Told told, int l, int taken) {
            int due = best[l * SLEEPER_SETS + taken];
            if (best[(l + 1) * SLEEPER_SETS + taken] == due) {
                return NONE;
            }
            for (int s = 0; s < told.sleepers; s++) {
                if (bestOn(l, s, taken) == due) {
                    return s;
                }
            }
            return NONE;
        }

        /** The best with the LOAF on this pillow; NONE if it cannot lie there. */
        private int bestOn(int l, int s, int taken) {
            if (worths[s] == NONE || (taken >> s & 1) == 1) {
                return NONE;
            }
            return worths[s] + best[(l + 1) * SLEEPER_SETS + (taken | 1 << s)];
        }

        private void fillWorths(Told told, State now, int l) {
            for (int s = 0; s < told.sleepers; s++) {
                boolean may = now.isFresh(l) && told.eater[l] != s;
                worths[s] = may ? now.worthOn(told, l, s) : NONE;
            }
        }
    }

    /** WEIGHTS as they will be, held apart from those of now. */
    private static final class Forecast {
        final Weights weights = new Weights();
        private final int[] tastes = new int[MOST_LOAVES];

        /** At most n NIGHTS, some SLEEPERS more being woken: how many changed a WEIGHT. */
        int run(Told told, State now, Beds beds, int woken, int n) {
            weights.become(now.weights);
            for (int night = 0; night < n; night++) {
                // What one night leaves alone, all later ones do, too: they would be the same.
                if (!passNight(told, beds, woken)) {
                    return night;
                }
            }
            return n;
        }

        /** FEED: each LOAF adds to the WEIGHT till it is the most it can be. */
        int fewestLoaves(Told told, State now, int s, int d) {
            weights.become(now.weights);
            for (int loaves = 0; loaves <= MOST_WEIGHT; loaves++) {
                if (weights.top(s) == d) {
                    return loaves;
                }
                weights.grow(s, d, told.gain);
            }
            return NONE;
        }

        private boolean passNight(Told told, Beds beds, int woken) {
            for (int l = 0; l < told.loaves; l++) {
                int bed = beds.bedOf[l];
                boolean sleptOn = bed != NONE && (woken >> bed & 1) == 0;
                tastes[l] = sleptOn ? weights.top(bed) : NONE;
            }
            boolean changed = false;
            for (int l = 0; l < told.loaves; l++) {
                if (tastes[l] != NONE && weights.grow(told.eater[l], tastes[l], told.gain)) {
                    changed = true;
                }
            }
            return changed;
        }
    }

    /** BITES of what one SLEEPER slept on. */
    private static final class Bites {
        private static final long WHOLE = 1000000000L;

        int count;
        private final int[] dreams = new int[MOST_BITES];

        boolean add(int d) {
            if (count >= MOST_BITES) {
                return false;
            }
            dreams[count] = d;
            count++;
            return true;
        }

        /** By WEIGHTS, not by parts: a part may be cut to 0 though it can be he. */
        int possible(Told told, Weights weights) {
            int set = 0;
            for (int s = 0; s < told.sleepers; s++) {
                if (dreamsAll(weights, s)) {
                    set |= 1 << s;
                }
            }
            return set;
        }

        int greatest(Told told, Weights weights) {
            int best = NONE;
            long most = 0;
            for (int s = 0; s < told.sleepers; s++) {
                long part = partOf(weights, s);
                if (part > most) {
                    most = part;
                    best = s;
                }
            }
            return best;
        }

        int share(Told told, Weights weights, int of) {
            long sum = 0;
            for (int s = 0; s < told.sleepers; s++) {
                sum += partOf(weights, s);
            }
            return sum > 0 ? (int) (partOf(weights, of) * MILLION / sum) : 0;
        }

        private boolean dreamsAll(Weights weights, int s) {
            for (int i = 0; i < count; i++) {
                if (weights.of(s, dreams[i]) == 0) {
                    return false;
                }
            }
            return true;
        }

        private long partOf(Weights weights, int s) {
            int all = weights.all(s);
            if (all <= 0) {
                return 0;
            }
            long part = WHOLE;
            for (int i = 0; i < count; i++) {
                part = part * weights.of(s, dreams[i]) / all;
            }
            return part;
        }
    }

    /** CRUMBS: ways counted by the SET of SLEEPERS that have a LOAF already. */
    private static final class Crumbs {
        private final int[] counts = new int[SLEEPER_SETS];

        /** How many ways there are, one LOAF being held to one SLEEPER (NONE: no LOAF is held). */
        int ways(Told told, State now, int heldLoaf, int heldTo) {
            Arrays.fill(counts, 0);
            counts[0] = 1;
            int placed = 0;
            for (int l = 0; l < told.loaves; l++) {
                if (!now.isFresh(l)) {
                    int only = l == heldLoaf ? heldTo : NONE;
                    place(told, bedsOf(told, now, l, only), placed);
                    placed++;
                }
            }
            return countOf(placed);
        }

        int sureBed(Told told, State now, int l) {
            if (now.isFresh(l)) {
                return NONE;
            }
            int sure = NONE;
            for (int s = 0; s < told.sleepers; s++) {
                if (ways(told, now, l, s) > 0) {
                    if (sure != NONE) {
                        return NONE;
                    }
                    sure = s;
                }
            }
            return sure;
        }

        private int bedsOf(Told told, State now, int l, int only) {
            int set = 0;
            for (int s = 0; s < told.sleepers; s++) {
                boolean may = s != told.eater[l] && now.weights.of(s, now.taste[l]) > 0;
                if (may && (only == NONE || only == s)) {
                    set |= 1 << s;
                }
            }
            return set;
        }

        /** SETS of one SLEEPER more are reached from those of as many as are placed: no two layers mix. */
        private void place(Told told, int beds, int placed) {
            for (int taken = 0; taken < SLEEPER_SETS; taken++) {
                int free = Integer.bitCount(taken) == placed ? beds & ~taken : 0;
                for (int s = 0; s < told.sleepers && free >> s != 0; s++) {
                    if ((free >> s & 1) == 1) {
                        counts[taken | 1 << s] += counts[taken];
                    }
                }
            }
        }

        private int countOf(int placed) {
            int sum = 0;
            for (int taken = 0; taken < SLEEPER_SETS; taken++) {
                if (Integer.bitCount(taken) == placed) {
                    sum += counts[taken];
                }
            }
            return sum;
        }
    }

    /** BREAD: of a million, how much falls to each number of LOAVES that taste as wanted. */
    private static final class Tonight {
        private final int[] parts = new int[MOST_LOAVES + 1];

        int atLeast(Told told, State now, int k) {
            Arrays.fill(parts, 0);
            parts[0] = MILLION;
            for (int l = 0; l < told.loaves; l++) {
                int s = now.pillow[l];
                if (s != NONE && !now.isAwake(s)) {
                    spread(now.weights.of(s, told.wanted[l]), now.weights.all(s));
                }
            }
            int sum = 0;
            for (int many = k; many <= MOST_LOAVES; many++) {
                sum += parts[many];
            }
            return sum;
        }

        /** From the top, so that what moves up is not moved twice. */
        private void spread(int above, int below) {
            if (below <= 0) {
                return;
            }
            for (int many = MOST_LOAVES - 1; many >= 0; many--) {
                int does = parts[many] * above / below;
                parts[many] -= does;
                parts[many + 1] += does;
            }
        }
    }

    /** THE BOOK. */
    private static final class Book {
        int count;
        private final int[] sleepers = new int[MOST_ENTRIES];
        private final int[] dreams = new int[MOST_ENTRIES];
        private final int[] weights = new int[MOST_ENTRIES];

        boolean add(int s, int d, int w) {
            if (count >= MOST_ENTRIES) {
                return false;
            }
            sleepers[count] = s;
            dreams[count] = d;
            weights[count] = w;
            count++;
            return true;
        }

        int firstWrong(Weights now) {
            for (int i = 0; i < count; i++) {
                if (now.of(sleepers[i], dreams[i]) != weights[i]) {
                    return i;
                }
            }
            return NONE;
        }
    }
}
