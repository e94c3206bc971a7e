/**
 * A game of titles told without words: words, titles, signs, slips, evenings, texts, spots, sheets.
 * Every act answers a number; answers from BEYOND down to SIZE are findings, which status() counts.
 */
public final class TitleMimes {
    private static final int BEYOND = -1000001;
    private static final int FULL = BEYOND - 1;
    private static final int KIND = BEYOND - 2;
    private static final int NONE = BEYOND - 3;
    private static final int STATE = BEYOND - 4;
    private static final int MISSING = BEYOND - 5;
    private static final int SIZE = BEYOND - 6;
    private static final int FINDINGS = 7;

    private static final int MOST_WORDS = 16;
    private static final int MOST_TITLES = 24;
    private static final int PLACES = 4;
    private static final int MOST_SYLLABLES = 6;
    private static final int MOST_SOUND = 9;
    private static final int BANDS = 2;
    private static final int MINUTE = 60;
    private static final int MOST_MINUTES = 12;
    private static final int MOST_HAT = 4;
    private static final int MOST_BYTES = 120;
    private static final int SPOTS = 10;
    private static final int SHEETS = 4;
    private static final int MOST_NUMBERS = 40;

    private static final int SIGN = 0;
    private static final int COUNTING = 1;
    private static final int SOUNDING = 2;
    private static final int ACTED = 3;
    private static final int POINTED = 4;
    private static final int SMALL = 5;
    private static final int WHOLE = 6;
    private static final int KINDS = 7;
    private static final int SIGNS = KINDS * PLACES;
    private static final int SIGN_TIME = 3;
    private static final int COUNTING_TIME = SIGN_TIME + 2;
    private static final int SOUNDING_TIME = SIGN_TIME + 5;
    /** The kind that each kind is under; SIGN is under none. */
    private static final int[] UNDER = {-1, SIGN, SIGN, COUNTING, SOUNDING, SIGN, SMALL};
    /** An ACTED sign of 6 syllables and sense 9 tells the most. */
    private static final int MOST_TOLD = 96;
    /** What fewest() counts as when not even three signs do. */
    private static final int NOT_BY_THREE = 4;

    private final Stock stock = new Stock();
    private final Stock kept = new Stock();
    private final Stock draft = new Stock();
    private final Chart chart = new Chart();
    private final Slip trial = new Slip();
    private final Tape tape = new Tape();
    private final Sheet[] sheets = new Sheet[SHEETS];
    private final int[] found = new int[FINDINGS];
    private final int[] brought = new int[MOST_TITLES];
    private boolean isKept = false;

    public TitleMimes() {
        for (int s = 0; s < SHEETS; s++) {
            sheets[s] = new Sheet();
        }
    }

    // ---- words, titles

    public int word(int syllables, int sound, int sense) {
        if (!isFeature(0, syllables) || !isFeature(1, sound) || !isFeature(2, sense)) {
            return finding(BEYOND);
        }
        if (stock.words >= MOST_WORDS) {
            return finding(FULL);
        }
        return stock.addWord(syllables, sound, sense);
    }

    public int wordOf(int word, int what) {
        if (!isWord(word) || what < 0 || what > 3) {
            return finding(BEYOND);
        }
        return what == 3 ? stock.titlesWith(word) : stock.feature(what)[word];
    }

    public int change(int word, int what, int v) {
        if (!isWord(word) || !isFeature(what, v)) {
            return finding(BEYOND);
        }
        int[] feature = stock.feature(what);
        int before = feature[word];
        feature[word] = v;
        return before;
    }

    public int title(int word) {
        if (!isWord(word)) {
            return finding(BEYOND);
        }
        if (stock.titles >= MOST_TITLES) {
            return finding(FULL);
        }
        return stock.addTitle(word);
    }

    public int more(int title, int word) {
        if (!isTitle(title) || !isWord(word)) {
            return finding(BEYOND);
        }
        if (stock.sizes[title] >= PLACES) {
            return finding(FULL);
        }
        return stock.lengthen(title, word);
    }

    public int ith(int title, int i) {
        if (!isTitle(title) || !isPlace(i)) {
            return finding(BEYOND);
        }
        if (i >= stock.sizes[title]) {
            return finding(NONE);
        }
        return stock.wordAt(title, i);
    }

    public int know(int title, int band, boolean is) {
        if (!isTitle(title) || !isBand(band)) {
            return finding(BEYOND);
        }
        int before = stock.known[band] >>> title & 1;
        stock.setKnown(title, band, is);
        return before;
    }

    public int known(int band) {
        return isBand(band) ? stock.known[band] : finding(BEYOND);
    }

    public int ofSize(int n) {
        if (n < 1 || n > PLACES) {
            return finding(BEYOND);
        }
        int set = 0;
        for (int t = 0; t < stock.titles; t++) {
            if (stock.sizes[t] == n) {
                set |= 1 << t;
            }
        }
        return set;
    }

    // ---- signs

    public int tells(int kind, int i, int title) {
        if (!isKind(kind) || !isPlace(i) || !isTitle(title)) {
            return finding(BEYOND);
        }
        return stock.told(kind, i, title);
    }

    public int takes(int kind, int i) {
        if (!isKind(kind) || !isPlace(i)) {
            return finding(BEYOND);
        }
        return timeOf(signOf(kind, i));
    }

    public int parts(int kind, int i, int set) {
        if (!isKind(kind) || !isPlace(i) || !isSet(set)) {
            return finding(BEYOND);
        }
        chart.fill(stock);
        return chart.partCount(signOf(kind, i), set);
    }

    public int worst(int kind, int i, int set) {
        if (!isKind(kind) || !isPlace(i) || !isSet(set)) {
            return finding(BEYOND);
        }
        chart.fill(stock);
        return chart.greatest(signOf(kind, i), signOf(kind, i), set);
    }

    public int sum(int kind, int i, int set) {
        if (!isKind(kind) || !isPlace(i) || !isSet(set)) {
            return finding(BEYOND);
        }
        chart.fill(stock);
        return chart.squares(signOf(kind, i), set);
    }

    // ---- a slip

    public int slip(int title, int band) {
        if (!isTitle(title) || !isBand(band)) {
            return finding(BEYOND);
        }
        if (!knows(band, title)) {
            return finding(STATE);
        }
        stock.slip.begin(title, band, stock.known[band]);
        return Integer.bitCount(stock.slip.fitting);
    }

    public int show(int kind, int i) {
        if (!isKind(kind) || !isPlace(i)) {
            return finding(BEYOND);
        }
        if (stock.slip.title < 0) {
            return finding(NONE);
        }
        int sign = signOf(kind, i);
        if (stock.slip.seconds + timeOf(sign) > MINUTE) {
            return finding(STATE);
        }
        chart.fill(stock);
        stock.slip.leave(chart.partOf(sign, stock.slip.title), timeOf(sign));
        return Integer.bitCount(stock.slip.fitting);
    }

    public int now(int what) {
        if (what < 0 || what > 5) {
            return finding(BEYOND);
        }
        if (stock.slip.title < 0) {
            return finding(NONE);
        }
        return stock.slip.fact(what);
    }

    public int shout(int title) {
        if (!isTitle(title)) {
            return finding(BEYOND);
        }
        if (stock.slip.title < 0) {
            return finding(NONE);
        }
        if ((stock.slip.fitting >>> title & 1) == 0) {
            return finding(STATE);
        }
        stock.slip.hear(title);
        return Integer.bitCount(stock.slip.fitting);
    }

    public int end() {
        if (stock.slip.title < 0) {
            return finding(NONE);
        }
        int reward = stock.slip.reward();
        stock.scores[stock.slip.band] += reward;
        stock.slip.drop();
        return reward;
    }

    public int score(int band) {
        return isBand(band) ? stock.scores[band] : finding(BEYOND);
    }

    // ---- which sign

    public int best(int set) {
        if (!isSet(set)) {
            return finding(BEYOND);
        }
        chart.fill(stock);
        return chart.leastSign(set, MINUTE, false);
    }

    public int mean(int set) {
        if (!isSet(set)) {
            return finding(BEYOND);
        }
        chart.fill(stock);
        return chart.leastSign(set, MINUTE, true);
    }

    public int two(int set) {
        if (!isSet(set)) {
            return finding(BEYOND);
        }
        chart.fill(stock);
        return chart.leastPair(set);
    }

    public int twoWorst(int set) {
        if (!isSet(set)) {
            return finding(BEYOND);
        }
        chart.fill(stock);
        int pair = chart.leastPair(set);
        return chart.greatest(pair / 100, pair % 100, set);
    }

    public int quick(int set, int s) {
        if (!isSet(set) || s < 0 || s > MINUTE) {
            return finding(BEYOND);
        }
        chart.fill(stock);
        int sign = chart.leastSign(set, s, false);
        return sign < 0 ? finding(NONE) : sign;
    }

    public int fewest(int title, int set) {
        if (!isSet(set) || !isTitle(title) || (set >>> title & 1) == 0) {
            return finding(BEYOND);
        }
        chart.fill(stock);
        int signs = chart.fewestSigns(title, set);
        return signs == NOT_BY_THREE ? finding(NONE) : signs;
    }

    public int seconds(int title, int set) {
        if (!isSet(set) || !isTitle(title) || (set >>> title & 1) == 0) {
            return finding(BEYOND);
        }
        chart.fill(stock);
        int time = chart.fewestSeconds(title, set);
        return time < 0 ? finding(NONE) : time;
    }

    public int hardest(int set) {
        if (!isSet(set)) {
            return finding(BEYOND);
        }
        if (set == 0) {
            return finding(NONE);
        }
        chart.fill(stock);
        int hardest = -1;
        int most = -1;
        for (int t = 0; t < stock.titles; t++) {
            int signs = (set >>> t & 1) == 0 ? -1 : chart.fewestSigns(t, set);
            if (signs > most) {
                most = signs;
                hardest = t;
            }
        }
        return hardest;
    }

    public int alike(int set) {
        if (!isSet(set)) {
            return finding(BEYOND);
        }
        chart.fill(stock);
        int pairs = 0;
        for (int t = 0; t < stock.titles; t++) {
            if ((set >>> t & 1) != 0) {
                // Only those behind t, so that each pair is counted once.
                pairs += Integer.bitCount(chart.partOfAll(t, set) >>> t) - 1;
            }
        }
        return pairs;
    }

    // ---- sounds like

    public int like(int word) {
        if (!isWord(word)) {
            return finding(BEYOND);
        }
        int nearest = -1;
        int least = MOST_SYLLABLES;
        for (int w = 0; w < stock.words; w++) {
            int apart = Math.abs(stock.syllables[w] - stock.syllables[word]);
            if (w != word && stock.sounds[w] == stock.sounds[word] && apart < least) {
                least = apart;
                nearest = w;
            }
        }
        return nearest < 0 ? finding(NONE) : nearest;
    }

    public int sense(int word) {
        if (!isWord(word)) {
            return finding(BEYOND);
        }
        int set = 0;
        for (int w = 0; w < stock.words; w++) {
            if (stock.senses[w] == stock.senses[word]) {
                set |= 1 << w;
            }
        }
        return set;
    }

    public int length(int title) {
        if (!isTitle(title)) {
            return finding(BEYOND);
        }
        int syllables = 0;
        for (int i = 0; i < stock.sizes[title]; i++) {
            syllables += stock.syllables[stock.wordAt(title, i)];
        }
        return syllables;
    }

    public int rare(int title) {
        if (!isTitle(title)) {
            return finding(BEYOND);
        }
        int place = 0;
        int least = MOST_TITLES + 1;
        for (int i = 0; i < stock.sizes[title]; i++) {
            int having = stock.titlesWith(stock.wordAt(title, i));
            if (having < least) {
                least = having;
                place = i;
            }
        }
        return place;
    }

    // ---- minutes, evenings

    public int minute(int title, int band) {
        if (!isTitle(title) || !isBand(band)) {
            return finding(BEYOND);
        }
        if (!knows(band, title)) {
            return finding(STATE);
        }
        chart.fill(stock);
        playTrial(title, band);
        return trial.seconds;
    }

    public int points(int title, int band) {
        if (!isTitle(title) || !isBand(band)) {
            return finding(BEYOND);
        }
        if (!knows(band, title)) {
            return finding(STATE);
        }
        chart.fill(stock);
        return playTrial(title, band);
    }

    public int had(int band) {
        if (!isBand(band)) {
            return finding(BEYOND);
        }
        chart.fill(stock);
        int titles = 0;
        for (int t = 0; t < stock.titles; t++) {
            if (knows(band, t)) {
                playTrial(t, band);
                titles += trial.isHad() ? 1 : 0;
            }
        }
        return titles;
    }

    public int evening(int band, int n) {
        int finding = eveningFinding(band, n);
        if (finding != 0) {
            return finding;
        }
        int before = stock.scores[band];
        playEvening(band, n);
        return stock.scores[band] - before;
    }

    public int ahead(int band, int n) {
        int finding = eveningFinding(band, n);
        if (finding != 0) {
            return finding;
        }
        int z = stock.z;
        int before = stock.scores[band];
        playEvening(band, n);
        int brings = stock.scores[band] - before;
        stock.z = z;
        stock.scores[band] = before;
        return brings;
    }

    public int hat(int n) {
        if (n < 1 || n > MOST_HAT) {
            return finding(BEYOND);
        }
        int both = stock.known[0] & stock.known[1];
        if (Integer.bitCount(both) < n) {
            return finding(NONE);
        }
        chart.fill(stock);
        for (int t = 0; t < stock.titles; t++) {
            boolean isBoth = (both >>> t & 1) != 0;
            brought[t] = isBoth ? playTrial(t, 0) + playTrial(t, 1) : -1;
        }
        return dearest(n);
    }

    public int unfair() {
        int both = stock.known[0] & stock.known[1];
        if (both == 0) {
            return finding(NONE);
        }
        chart.fill(stock);
        int unfair = -1;
        int most = -1;
        for (int t = 0; t < stock.titles; t++) {
            boolean isBoth = (both >>> t & 1) != 0;
            int apart = isBoth ? Math.abs(playTrial(t, 0) - playTrial(t, 1)) : -1;
            if (apart > most) {
                most = apart;
                unfair = t;
            }
        }
        return unfair;
    }

    public int seed(int v) {
        int before = stock.z;
        stock.z = v;
        return before;
    }

    // ---- texts

    public int feed(int bytes, int n) {
        if (n < 1 || n > 4) {
            return finding(BEYOND);
        }
        if (tape.size + n > MOST_BYTES) {
            return finding(FULL);
        }
        for (int k = n - 1; k >= 0; k--) {
            tape.add((bytes >>> 8 * k) & 255);
        }
        return tape.size;
    }

    public int wipe() {
        int before = tape.size;
        tape.size = 0;
        return before;
    }

    public int text() {
        // Items are tried on a draft: a fault further on must leave nothing of them.
        draft.become(stock);
        int answer = tape.read(draft);
        tape.size = 0;
        if (answer >= 0) {
            stock.become(draft);
        }
        return answer;
    }

    // ---- spots, sheets

    public int hold(int spot, int sign) {
        if (!isSpot(spot) || sign < -1 || sign >= SIGNS) {
            return finding(BEYOND);
        }
        stock.spots[spot] = sign + 1;
        return 1;
    }

    public int as(int spot, int kind) {
        if (!isSpot(spot) || !isKind(kind)) {
            return finding(BEYOND);
        }
        int sign = stock.spots[spot] - 1;
        if (sign < 0) {
            return finding(MISSING);
        }
        return isOfKind(kindOf(sign), kind) ? placeOf(sign) : finding(KIND);
    }

    public int sheet(int s, int bits, int n) {
        if (!isSheet(s) || bits != 0 && bits != 8 && bits != 16 && bits != 32) {
            return finding(BEYOND);
        }
        if (n < 0) {
            return finding(SIZE);
        }
        if (n > MOST_NUMBERS) {
            return finding(BEYOND);
        }
        return sheets[s].renew(bits, n);
    }

    public int write(int s, int i, int v) {
        if (!isSheet(s)) {
            return finding(BEYOND);
        }
        Sheet sheet = sheets[s];
        if (sheet.isMissing()) {
            return finding(MISSING);
        }
        if (i < 0 || i >= sheet.size) {
            return finding(BEYOND);
        }
        sheet.put(i, v);
        return 1;
    }

    public int copy(int s, int from, int t, int to, int n) {
        if (!isSheet(s) || !isSheet(t)) {
            return finding(BEYOND);
        }
        Sheet source = sheets[s];
        Sheet target = sheets[t];
        if (source.isMissing() || target.isMissing()) {
            return finding(MISSING);
        }
        if (source.bits != target.bits) {
            return finding(KIND);
        }
        if (!source.hasRange(from, n) || !target.hasRange(to, n)) {
            return finding(BEYOND);
        }
        System.arraycopy(source.numbers, from, target.numbers, to, n);
        return n;
    }

    public int load(int s) {
        if (!isSheet(s)) {
            return finding(BEYOND);
        }
        Sheet sheet = sheets[s];
        if (sheet.isMissing()) {
            return finding(MISSING);
        }
        int came = 0;
        while (came < sheet.size && came < stock.words && isFeature(2, sheet.numbers[came])) {
            stock.senses[came] = sheet.numbers[came];
            came++;
        }
        return came;
    }

    public int judge(int s) {
        if (!isSheet(s)) {
            return finding(BEYOND);
        }
        Sheet sheet = sheets[s];
        if (sheet.isMissing()) {
            return finding(MISSING);
        }
        int set = stock.allTitles();
        for (int i = 0; i + 1 < sheet.size; i += 2) {
            int sign = sheet.numbers[i];
            if (sign < 0 || sign >= SIGNS) {
                return finding(STATE);
            }
            set &= stock.titlesTold(sign, sheet.numbers[i + 1]);
        }
        return set;
    }

    // ---- images

    public int image() {
        kept.become(stock);
        isKept = true;
        return 1;
    }

    public int undo() {
        if (!isKept) {
            return finding(NONE);
        }
        stock.become(kept);
        return stock.titles;
    }

    public int tear() {
        int before = isKept ? 1 : 0;
        isKept = false;
        return before;
    }

    public int count(int what) {
        switch (what) {
            case 0: return stock.words;
            case 1: return stock.titles;
            case 2: return stock.scores[0] + stock.scores[1];
            case 3: return stock.allSyllables();
            case 4: return tape.size;
            case 5: return stock.z;
            case 6: return stock.heldSpots();
            default: return finding(BEYOND);
        }
    }

    public int status(int which) {
        if (which < -1 || which >= FINDINGS) {
            return finding(BEYOND);
        }
        if (which >= 0) {
            return found[which];
        }
        int all = 0;
        for (int f = 0; f < FINDINGS; f++) {
            all += found[f];
        }
        return all;
    }

    // ---- helpers of the acts

    private int finding(int answer) {
        int which = BEYOND - answer;
        if (which >= 0 && which < FINDINGS) {
            found[which]++;
        }
        return answer;
    }

    private boolean isWord(int word) {
        return word >= 0 && word < stock.words;
    }

    private boolean isTitle(int title) {
        return title >= 0 && title < stock.titles;
    }

    private boolean isSet(int set) {
        return (set & ~stock.allTitles()) == 0;
    }

    private boolean knows(int band, int title) {
        return (stock.known[band] >>> title & 1) != 0;
    }

    /** Whether v may be what 0 SYLLABLES, 1 SOUND, 2 SENSE of a word. */
    private static boolean isFeature(int what, int v) {
        if (what == 0) {
            return v >= 1 && v <= MOST_SYLLABLES;
        }
        return (what == 1 || what == 2) && v >= 0 && v <= MOST_SOUND;
    }

    private static boolean isBand(int band) {
        return band >= 0 && band < BANDS;
    }

    private static boolean isKind(int kind) {
        return kind >= 0 && kind < KINDS;
    }

    private static boolean isPlace(int i) {
        return i >= 0 && i < PLACES;
    }

    private static boolean isSpot(int spot) {
        return spot >= 0 && spot < SPOTS;
    }

    private static boolean isSheet(int s) {
        return s >= 0 && s < SHEETS;
    }

    private static int signOf(int kind, int i) {
        return PLACES * kind + i;
    }

    private static int kindOf(int sign) {
        return sign / PLACES;
    }

    private static int placeOf(int sign) {
        return sign % PLACES;
    }

    /** Whether a kind is that one or stands under it, however far. */
    private static boolean isOfKind(int kind, int above) {
        int k = kind;
        for (int step = 0; step < KINDS && k >= 0; step++) {
            if (k == above) {
                return true;
            }
            k = UNDER[k];
        }
        return false;
    }

    private static int timeOf(int sign) {
        switch (kindOf(sign)) {
            case SIGN: return SIGN_TIME;
            case COUNTING: return COUNTING_TIME;
            case ACTED: return COUNTING_TIME + 7;
            case SOUNDING: return SOUNDING_TIME;
            case POINTED: return SOUNDING_TIME / 2;
            case SMALL: return SIGN_TIME - 1;
            default: return 20 + placeOf(sign);
        }
    }

    /** Points of a minute by rule, on the trial slip so that the one of the stock stays. */
    private int playTrial(int title, int band) {
        trial.begin(title, band, stock.known[band]);
        chart.play(trial);
        return trial.reward();
    }

    /** The finding that an evening meets, or 0. */
    private int eveningFinding(int band, int n) {
        if (!isBand(band) || n < 1 || n > MOST_MINUTES) {
            return finding(BEYOND);
        }
        return stock.known[band] == 0 ? finding(STATE) : 0;
    }

    private void playEvening(int band, int n) {
        chart.fill(stock);
        for (int k = 0; k < n; k++) {
            stock.scores[band] += playTrial(stock.drawTitle(band), band);
        }
    }

    /**
     * The set of n titles with most brought together. What a title brings doesn't hang on the
     * others, so the greatest one by one will do, the lower number first for the least set.
     */
    private int dearest(int n) {
        int set = 0;
        for (int k = 0; k < n; k++) {
            int dearest = -1;
            int most = -1;
            for (int t = 0; t < stock.titles; t++) {
                if ((set >>> t & 1) == 0 && brought[t] > most) {
                    most = brought[t];
                    dearest = t;
                }
            }
            if (dearest >= 0) {
                set |= 1 << dearest;
            }
        }
        return set;
    }

    /** A title played for a band; title -1 is none. */
    private static final class Slip {
        int title = -1;
        int band = 0;
        int seconds = 0;
        int signs = 0;
        int fitting = 0;

        void begin(int newTitle, int newBand, int known) {
            title = newTitle;
            band = newBand;
            seconds = 0;
            signs = 0;
            fitting = known;
        }

        void drop() {
            begin(-1, 0, 0);
        }

        void become(Slip other) {
            title = other.title;
            band = other.band;
            seconds = other.seconds;
            signs = other.signs;
            fitting = other.fitting;
        }

        /** A sign was shown that leaves the titles of a part. */
        void leave(int part, int time) {
            fitting &= part;
            seconds += time;
            signs++;
        }

        void hear(int shouted) {
            int bit = 1 << shouted;
            fitting = shouted == title ? bit : fitting & ~bit;
        }

        boolean isHad() {
            return Integer.bitCount(fitting) == 1;
        }

        int reward() {
            return isHad() ? MINUTE - seconds : 0;
        }

        int fact(int what) {
            switch (what) {
                case 0: return title;
                case 1: return band;
                case 2: return seconds;
                case 3: return signs;
                case 4: return fitting;
                default: return isHad() ? 1 : 0;
            }
        }
    }

    /** All that an image keeps. */
    private static final class Stock {
        final int[] syllables = new int[MOST_WORDS];
        final int[] sounds = new int[MOST_WORDS];
        final int[] senses = new int[MOST_WORDS];
        int words = 0;
        final int[] rows = new int[MOST_TITLES * PLACES];
        final int[] sizes = new int[MOST_TITLES];
        int titles = 0;
        final int[] known = new int[BANDS];
        final int[] scores = new int[BANDS];
        /** The number of the sign and 1, so that a new row of zeros holds nothing. */
        final int[] spots = new int[SPOTS];
        final Slip slip = new Slip();
        int z = 1;

        void become(Stock other) {
            System.arraycopy(other.syllables, 0, syllables, 0, MOST_WORDS);
            System.arraycopy(other.sounds, 0, sounds, 0, MOST_WORDS);
            System.arraycopy(other.senses, 0, senses, 0, MOST_WORDS);
            words = other.words;
            System.arraycopy(other.rows, 0, rows, 0, MOST_TITLES * PLACES);
            System.arraycopy(other.sizes, 0, sizes, 0, MOST_TITLES);
            titles = other.titles;
            System.arraycopy(other.known, 0, known, 0, BANDS);
            System.arraycopy(other.scores, 0, scores, 0, BANDS);
            System.arraycopy(other.spots, 0, spots, 0, SPOTS);
            slip.become(other.slip);
            z = other.z;
        }

        /** The row of what 0 SYLLABLES, 1 SOUNDS, else SENSES. */
        int[] feature(int what) {
            if (what == 0) {
                return syllables;
            }
            return what == 1 ? sounds : senses;
        }

        int addWord(int newSyllables, int newSound, int newSense) {
            syllables[words] = newSyllables;
            sounds[words] = newSound;
            senses[words] = newSense;
            words++;
            return words - 1;
        }

        int addTitle(int firstWord) {
            int title = titles;
            titles++;
            sizes[title] = 0;
            lengthen(title, firstWord);
            setKnown(title, 0, true);
            setKnown(title, 1, true);
            return title;
        }

        int lengthen(int title, int newWord) {
            rows[PLACES * title + sizes[title]] = newWord;
            sizes[title]++;
            return sizes[title];
        }

        void setKnown(int title, int band, boolean is) {
            int bit = 1 << title;
            known[band] = is ? known[band] | bit : known[band] & ~bit;
        }

        int wordAt(int title, int i) {
            return rows[PLACES * title + i];
        }

        int titlesWith(int aWord) {
            int having = 0;
            for (int t = 0; t < titles; t++) {
                having += hasWord(t, aWord) ? 1 : 0;
            }
            return having;
        }

        private boolean hasWord(int title, int aWord) {
            for (int i = 0; i < sizes[title]; i++) {
                if (wordAt(title, i) == aWord) {
                    return true;
                }
            }
            return false;
        }

        int allTitles() {
            return (1 << titles) - 1;
        }

        int allSyllables() {
            int all = 0;
            for (int w = 0; w < words; w++) {
                all += syllables[w];
            }
            return all;
        }

        int heldSpots() {
            int held = 0;
            for (int s = 0; s < SPOTS; s++) {
                held += spots[s] > 0 ? 1 : 0;
            }
            return held;
        }

        /** What a sign tells of a title. */
        int told(int kind, int i, int title) {
            if (kind == SIGN) {
                return sizes[title];
            }
            if (i >= sizes[title]) {
                return 0;
            }
            int w = wordAt(title, i);
            switch (kind) {
                case COUNTING: return syllables[w];
                case ACTED: return syllables[w] + 10 * senses[w];
                case SOUNDING: return sounds[w] + 1;
                case POINTED: return (sounds[w] + 1) / 3;
                case SMALL: return syllables[w] == 1 ? 1 : 0;
                default: return w + 1;
            }
        }

        /** The titles of which a sign tells v. */
        int titlesTold(int sign, int v) {
            int set = 0;
            for (int t = 0; t < titles; t++) {
                if (told(kindOf(sign), placeOf(sign), t) == v) {
                    set |= 1 << t;
                }
            }
            return set;
        }

        /** A draw among the titles that a band knows; the band must know one. */
        int drawTitle(int band) {
            z = z * 1103515245 + 12345;
            int many = Integer.bitCount(known[band]);
            int rest = many > 0 ? (z >>> 8) % many : 0;
            for (int t = 0; t < titles; t++) {
                if ((known[band] >>> t & 1) != 0) {
                    if (rest == 0) {
                        return t;
                    }
                    rest--;
                }
            }
            return 0;
        }
    }

    /**
     * For each sign and title the set of titles of which that sign tells the same.
     * It is filled anew from the stock by each act that asks it, so that it is never stale.
     */
    private static final class Chart {
        private final int[] same = new int[SIGNS * MOST_TITLES];
        private final int[] values = new int[MOST_TITLES];
        private final int[] byValue = new int[MOST_TOLD + 1];
        private int titles = 0;

        void fill(Stock stock) {
            titles = stock.titles;
            for (int sign = 0; sign < SIGNS; sign++) {
                fillSign(stock, sign);
            }
        }

        private void fillSign(Stock stock, int sign) {
            for (int t = 0; t < titles; t++) {
                int v = stock.told(kindOf(sign), placeOf(sign), t);
                values[t] = v;
                byValue[v] |= 1 << t;
            }
            for (int t = 0; t < titles; t++) {
                same[MOST_TITLES * sign + t] = byValue[values[t]];
            }
            for (int t = 0; t < titles; t++) {
                byValue[values[t]] = 0;
            }
        }

        /** The part of all titles in which a title is by a sign. */
        int partOf(int sign, int title) {
            return same[MOST_TITLES * sign + title];
        }

        /** The part of a set in which a title is by all signs together. */
        int partOfAll(int title, int set) {
            int part = set;
            for (int sign = 0; sign < SIGNS; sign++) {
                part &= partOf(sign, title);
            }
            return part;
        }

        int partCount(int sign, int set) {
            int rest = set;
            int count = 0;
            for (int t = 0; t < titles; t++) {
                if ((rest >>> t & 1) != 0) {
                    rest &= ~partOf(sign, t);
                    count++;
                }
            }
            return count;
        }

        int squares(int sign, int set) {
            int rest = set;
            int total = 0;
            for (int t = 0; t < titles; t++) {
                if ((rest >>> t & 1) != 0) {
                    int many = Integer.bitCount(rest & partOf(sign, t));
                    rest &= ~partOf(sign, t);
                    total += many * many;
                }
            }
            return total;
        }

        /** How many are in the greatest part by two signs; by one if it is given twice. */
        int greatest(int one, int other, int set) {
            int rest = set;
            int most = 0;
            for (int t = 0; t < titles; t++) {
                if ((rest >>> t & 1) != 0) {
                    int part = rest & partOf(one, t) & partOf(other, t);
                    rest &= ~part;
                    most = Math.max(most, Integer.bitCount(part));
                }
            }
            return most;
        }

        /**
         * The sign that takes at most so many seconds with the least sum of squares or else the
         * least greatest part; of several the one that takes least, then the first; -1 if none.
         */
        int leastSign(int set, int mostTime, boolean bySquares) {
            int chosen = -1;
            int least = 0;
            for (int sign = 0; sign < SIGNS; sign++) {
                int time = timeOf(sign);
                if (time <= mostTime) {
                    int size = bySquares ? squares(sign, set) : greatest(sign, sign, set);
                    boolean isLess = chosen < 0 || size < least;
                    if (isLess || size == least && time < timeOf(chosen)) {
                        chosen = sign;
                        least = size;
                    }
                }
            }
            return chosen;
        }

        /** 100 times the lesser sign and the other one: by both the greatest part is least. */
        int leastPair(int set) {
            int pair = 1;
            int least = MOST_TITLES + 1;
            for (int one = 0; one < SIGNS; one++) {
                for (int other = one + 1; other < SIGNS; other++) {
                    int size = greatest(one, other, set);
                    if (size < least) {
                        least = size;
                        pair = 100 * one + other;
                    }
                }
            }
            return pair;
        }

        int fewestSigns(int title, int set) {
            int alone = 1 << title;
            if (set == alone) {
                return 0;
            }
            // Where all signs together don't part it, no three of them need be tried.
            if (partOfAll(title, set) != alone) {
                return NOT_BY_THREE;
            }
            if (isAloneByOne(title, set)) {
                return 1;
            }
            if (isAloneByTwo(title, set, 0)) {
                return 2;
            }
            return isAloneByThree(title, set) ? 3 : NOT_BY_THREE;
        }

        private boolean isAloneByOne(int title, int set) {
            for (int sign = 0; sign < SIGNS; sign++) {
                if ((set & partOf(sign, title)) == 1 << title) {
                    return true;
                }
            }
            return false;
        }

        private boolean isAloneByTwo(int title, int set, int first) {
            for (int one = first; one < SIGNS; one++) {
                int part = set & partOf(one, title);
                for (int other = one + 1; other < SIGNS; other++) {
                    if ((part & partOf(other, title)) == 1 << title) {
                        return true;
                    }
                }
            }
            return false;
        }

        private boolean isAloneByThree(int title, int set) {
            for (int sign = 0; sign < SIGNS; sign++) {
                if (isAloneByTwo(title, set & partOf(sign, title), sign + 1)) {
                    return true;
                }
            }
            return false;
        }

        /** The fewest seconds of one or two signs by which a title is alone, or -1. */
        int fewestSeconds(int title, int set) {
            int alone = 1 << title;
            if (set == alone) {
                return 0;
            }
            int least = -1;
            for (int one = 0; one < SIGNS; one++) {
                int part = set & partOf(one, title);
                for (int other = one; other < SIGNS; other++) {
                    // A sign with itself stands for that sign alone, and takes its time once.
                    int time = timeOf(one) + (other == one ? 0 : timeOf(other));
                    boolean isAlone = (part & partOf(other, title)) == alone;
                    if (isAlone && (least < 0 || time < least)) {
                        least = time;
                    }
                }
            }
            return least;
        }

        /** A minute by rule. Each sign takes time, so a minute has fewer signs than seconds. */
        void play(Slip slip) {
            for (int shown = 0; shown < MINUTE; shown++) {
                int many = Integer.bitCount(slip.fitting);
                int sign = many > 1 ? leastSign(slip.fitting, MINUTE, false) : -1;
                if (sign < 0 || greatest(sign, sign, slip.fitting) >= many) {
                    return;
                }
                if (slip.seconds + timeOf(sign) > MINUTE) {
                    return;
                }
                slip.leave(partOf(sign, slip.title), timeOf(sign));
            }
        }
    }

    /**
     * The bytes that were fed, which read themselves as a text: between the steps of reading the
     * next token is looked at, and not yet taken.
     */
    private static final class Tape {
        private static final int END = 0;
        private static final int NUMBER = 1;
        private static final int SEMICOLON = 2;
        private static final int NAME = 3;
        private static final int NO_TOKEN = 4;
        /** Above every number that a text may tell, however many digits follow. */
        private static final int TOO_GREAT = 1000;

        private final int[] bytes = new int[MOST_BYTES];
        int size = 0;
        private int token = END;
        private int start = 0;
        private int next = 0;
        private int number = 0;

        void add(int b) {
            if (size < MOST_BYTES) {
                bytes[size] = b;
                size++;
            }
        }

        /** Does to the stock all that the tape tells: how many items, or -1 less the fault. */
        int read(Stock stock) {
            next = 0;
            step();
            for (int items = 1; items <= MOST_BYTES; items++) {
                if (!readItem(stock)) {
                    return -1 - start;
                }
                if (token == END) {
                    return items;
                }
                if (token != SEMICOLON) {
                    return -1 - start;
                }
                step();
            }
            return -1 - start;
        }

        /** Looks at the next token; the end is one, too, behind the last byte. */
        private void step() {
            while (next < size && bytes[next] == ' ') {
                next++;
            }
            start = next;
            if (next >= size) {
                token = END;
                return;
            }
            if (isLetter(bytes[next])) {
                token = NAME;
                while (next < size && isLetter(bytes[next])) {
                    next++;
                }
            } else if (isDigit(bytes[next])) {
                token = NUMBER;
                number = 0;
                while (next < size && isDigit(bytes[next])) {
                    number = Math.min(TOO_GREAT, 10 * number + bytes[next] - '0');
                    next++;
                }
            } else {
                token = bytes[next] == ';' ? SEMICOLON : NO_TOKEN;
                next++;
            }
        }

        private static boolean isLetter(int b) {
            return b >= 'a' && b <= 'z';
        }

        private static boolean isDigit(int b) {
            return b >= '0' && b <= '9';
        }

        private boolean isName(String name) {
            if (token != NAME || next - start != name.length()) {
                return false;
            }
            for (int k = 0; k < name.length(); k++) {
                if (bytes[start + k] != name.charAt(k)) {
                    return false;
                }
            }
            return true;
        }

        private boolean isNumber(int low, int high) {
            return token == NUMBER && number >= low && number <= high;
        }

        /** False with a fault, which is then where the token looked at starts. */
        private boolean readItem(Stock stock) {
            if (isName("word")) {
                return readWord(stock);
            }
            if (isName("title")) {
                return readTitle(stock);
            }
            return isName("only") && readOnly(stock);
        }

        private boolean readWord(Stock stock) {
            if (stock.words >= MOST_WORDS) {
                return false;
            }
            step();
            if (!isNumber(1, MOST_SYLLABLES)) {
                return false;
            }
            int syllables = number;
            step();
            int sound = readChoice("sound");
            if (sound < 0) {
                return false;
            }
            int sense = readChoice("sense");
            if (sense < 0) {
                return false;
            }
            stock.addWord(syllables, sound, sense);
            return true;
        }

        /** What stands behind a name that may be there: 0 without it, -1 with a fault. */
        private int readChoice(String name) {
            if (!isName(name)) {
                return 0;
            }
            step();
            if (!isNumber(0, MOST_SOUND)) {
                return -1;
            }
            int v = number;
            step();
            return v;
        }

        private boolean readTitle(Stock stock) {
            if (stock.titles >= MOST_TITLES) {
                return false;
            }
            step();
            if (!isNumber(0, stock.words - 1)) {
                return false;
            }
            int title = stock.addTitle(number);
            step();
            for (int i = 1; i < PLACES && token == NUMBER; i++) {
                if (number >= stock.words) {
                    return false;
                }
                stock.lengthen(title, number);
                step();
            }
            return true;
        }

        private boolean readOnly(Stock stock) {
            step();
            if (!isNumber(0, stock.titles - 1)) {
                return false;
            }
            int title = number;
            step();
            if (!isNumber(0, BANDS - 1)) {
                return false;
            }
            stock.setKnown(title, number, true);
            stock.setKnown(title, 1 - number, false);
            step();
            return true;
        }
    }

    /** A row of numbers of some bits; of 0 bits it is missing. */
    private static final class Sheet {
        final int[] numbers = new int[MOST_NUMBERS];
        int size = 0;
        int bits = 0;

        boolean isMissing() {
            return bits == 0;
        }

        int renew(int newBits, int n) {
            bits = newBits;
            size = newBits == 0 ? 0 : n;
            for (int i = 0; i < MOST_NUMBERS; i++) {
                numbers[i] = 0;
            }
            return size;
        }

        void put(int i, int v) {
            if (bits == 8) {
                numbers[i] = (byte) v;
            } else if (bits == 16) {
                numbers[i] = (short) v;
            } else {
                numbers[i] = v;
            }
        }

        boolean hasRange(int from, int n) {
            return from >= 0 && n >= 0 && n <= size && from <= size - n;
        }
    }
}
