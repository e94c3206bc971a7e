import java.util.ArrayList;
import java.util.Arrays;
import java.util.HashMap;
import java.util.List;
import java.util.Map;
import java.util.TreeSet;
import java.util.regex.Matcher;
import java.util.regex.Pattern;

/**
 * The document once more, written as near to its words as can be and without any thought of
 * speed: kinds are classes under one another, parts are counted, hats are tried one by one.
 * Its findings are thrown; call() of ModelTest turns them into answers and counts them.
 */
final class Model {
    static final class Finding extends RuntimeException {
        private static final long serialVersionUID = 1L;
        final int number;

        Finding(int number) {
            this.number = number;
        }
    }

    private static void ask(boolean isFound, int number) {
        if (isFound) {
            throw new Finding(number);
        }
    }

    private static boolean out(int v, int low, int high) {
        return v < low || v > high;
    }

    private static final class Word {
        int syllables;
        int sound;
        int sense;
    }

    private static final class Title {
        final List<Integer> row = new ArrayList<>();
        final boolean[] known = {true, true};
    }

    private static final class PlayedSlip {
        int title;
        int band;
        int seconds;
        int signs;
        TreeSet<Integer> fitting = new TreeSet<>();

        boolean isHad() {
            return fitting.size() == 1;
        }

        int points() {
            return isHad() ? 60 - seconds : 0;
        }
    }

    private static class Sign {
        int tells(Model m, Title t, int i) {
            return t.row.size();
        }

        int takes(int i) {
            return 3;
        }

        Word word(Model m, Title t, int i) {
            return i < t.row.size() ? m.world.words.get(t.row.get(i)) : null;
        }
    }

    private static class Counting extends Sign {
        @Override int tells(Model m, Title t, int i) {
            Word w = word(m, t, i);
            return w == null ? 0 : w.syllables;
        }

        @Override int takes(int i) {
            return super.takes(i) + 2;
        }
    }

    private static final class Acted extends Counting {
        @Override int tells(Model m, Title t, int i) {
            Word w = word(m, t, i);
            return super.tells(m, t, i) + (w == null ? 0 : 10 * w.sense);
        }

        @Override int takes(int i) {
            return super.takes(i) + 7;
        }
    }

    private static class Sounding extends Sign {
        @Override int tells(Model m, Title t, int i) {
            Word w = word(m, t, i);
            return w == null ? 0 : w.sound + 1;
        }

        @Override int takes(int i) {
            return super.takes(i) + 5;
        }
    }

    private static final class Pointed extends Sounding {
        @Override int tells(Model m, Title t, int i) {
            return super.tells(m, t, i) / 3;
        }

        @Override int takes(int i) {
            return super.takes(i) / 2;
        }
    }

    private static class Small extends Sign {
        @Override int tells(Model m, Title t, int i) {
            Word w = word(m, t, i);
            return w != null && w.syllables == 1 ? 1 : 0;
        }

        @Override int takes(int i) {
            return super.takes(i) - 1;
        }
    }

    private static final class Whole extends Small {
        @Override int tells(Model m, Title t, int i) {
            return i < t.row.size() ? t.row.get(i) + 1 : 0;
        }

        @Override int takes(int i) {
            return 20 + i;
        }
    }

    private static final Sign[] KINDS = {
        new Sign(), new Counting(), new Sounding(), new Acted(), new Pointed(), new Small(), new Whole()};

    /** All but the tape, sheets, images and status. */
    private static final class World {
        List<Word> words = new ArrayList<>();
        List<Title> titles = new ArrayList<>();
        int[] scores = new int[2];
        int z = 1;
        Integer[] spots = new Integer[10];
        PlayedSlip slip = null;

        World twin() {
            World w = new World();
            for (Word old : words) {
                Word n = new Word();
                n.syllables = old.syllables;
                n.sound = old.sound;
                n.sense = old.sense;
                w.words.add(n);
            }
            for (Title old : titles) {
                Title n = new Title();
                n.row.addAll(old.row);
                n.known[0] = old.known[0];
                n.known[1] = old.known[1];
                w.titles.add(n);
            }
            w.scores = scores.clone();
            w.z = z;
            w.spots = spots.clone();
            if (slip != null) {
                w.slip = new PlayedSlip();
                w.slip.title = slip.title;
                w.slip.band = slip.band;
                w.slip.seconds = slip.seconds;
                w.slip.signs = slip.signs;
                w.slip.fitting = new TreeSet<>(slip.fitting);
            }
            return w;
        }
    }

    private World world = new World();
    private World kept = null;
    private final StringBuilder tape = new StringBuilder();
    private final long[][] sheets = new long[4][];
    private final int[] sheetBits = new int[4];
    final int[] found = new int[7];

    private boolean noWord(int w) {
        return out(w, 0, world.words.size() - 1);
    }

    private boolean noTitle(int t) {
        return out(t, 0, world.titles.size() - 1);
    }

    private boolean noSign(int kind, int i) {
        return out(kind, 0, 6) || out(i, 0, 3);
    }

    private boolean noSet(int set) {
        return set < 0 || set >= Math.pow(2, world.titles.size());
    }

    private TreeSet<Integer> setOf(int bits) {
        TreeSet<Integer> set = new TreeSet<>();
        for (int t = 0; t < 24; t++) {
            if ((bits & (1 << t)) != 0) {
                set.add(t);
            }
        }
        return set;
    }

    private int bitsOf(Iterable<Integer> set) {
        int bits = 0;
        for (int t : set) {
            bits += 1 << t;
        }
        return bits;
    }

    private TreeSet<Integer> knownTo(int band) {
        TreeSet<Integer> set = new TreeSet<>();
        for (int t = 0; t < world.titles.size(); t++) {
            if (world.titles.get(t).known[band]) {
                set.add(t);
            }
        }
        return set;
    }

    private int told(int sign, int t) {
        return KINDS[sign / 4].tells(this, world.titles.get(t), sign % 4);
    }

    private int time(int sign) {
        return KINDS[sign / 4].takes(sign % 4);
    }

    /** How many are in each part of a set by some signs together. */
    private Map<List<Integer>, Integer> partsBy(TreeSet<Integer> set, int... signs) {
        Map<List<Integer>, Integer> parts = new HashMap<>();
        for (int t : set) {
            List<Integer> key = new ArrayList<>();
            for (int s : signs) {
                key.add(told(s, t));
            }
            parts.merge(key, 1, Integer::sum);
        }
        return parts;
    }

    private int worstBy(TreeSet<Integer> set, int... signs) {
        int most = 0;
        for (int n : partsBy(set, signs).values()) {
            most = Math.max(most, n);
        }
        return most;
    }

    private int sumBy(TreeSet<Integer> set, int sign) {
        int sum = 0;
        for (int n : partsBy(set, sign).values()) {
            sum += n * n;
        }
        return sum;
    }

    private int least(TreeSet<Integer> set, int s, boolean bySum) {
        int chosen = -1;
        long best = Long.MAX_VALUE;
        for (int sign = 0; sign < 28; sign++) {
            long size = bySum ? sumBy(set, sign) : worstBy(set, sign);
            long rank = (size * 100 + time(sign)) * 100 + sign;
            if (time(sign) <= s && rank < best) {
                best = rank;
                chosen = sign;
            }
        }
        return chosen;
    }

    private boolean isAlone(int t, TreeSet<Integer> set, int... signs) {
        for (int other : set) {
            boolean isSame = other != t;
            for (int s : signs) {
                isSame &= told(s, other) == told(s, t);
            }
            if (isSame) {
                return false;
            }
        }
        return true;
    }

    private int fewestOf(int t, TreeSet<Integer> set) {
        if (isAlone(t, set)) {
            return 0;
        }
        int few = 4;
        for (int a = 0; a < 28; a++) {
            for (int b = a; b < 28; b++) {
                for (int c = b; c < 28; c++) {
                    int unlike = new TreeSet<>(Arrays.asList(a, b, c)).size();
                    if (unlike < few && isAlone(t, set, a, b, c)) {
                        few = unlike;
                    }
                }
            }
        }
        return few;
    }

    private PlayedSlip begun(int title, int band) {
        PlayedSlip s = new PlayedSlip();
        s.title = title;
        s.band = band;
        s.fitting = knownTo(band);
        return s;
    }

    private void showOn(PlayedSlip s, int sign) {
        s.fitting.removeIf(t -> told(sign, t) != told(sign, s.title));
        s.seconds += time(sign);
        s.signs++;
    }

    private PlayedSlip played(int title, int band) {
        PlayedSlip s = begun(title, band);
        while (s.fitting.size() > 1) {
            int sign = least(s.fitting, 60, false);
            if (s.seconds + time(sign) > 60 || worstBy(s.fitting, sign) >= s.fitting.size()) {
                break;
            }
            showOn(s, sign);
        }
        return s;
    }

    // ---- words, titles

    int word(int syllables, int sound, int sense) {
        ask(out(syllables, 1, 6) || out(sound, 0, 9) || out(sense, 0, 9), Due.BEYOND);
        ask(world.words.size() == 16, Due.FULL);
        Word w = new Word();
        w.syllables = syllables;
        w.sound = sound;
        w.sense = sense;
        world.words.add(w);
        return world.words.size() - 1;
    }

    int wordOf(int word, int what) {
        ask(noWord(word) || out(what, 0, 3), Due.BEYOND);
        Word w = world.words.get(word);
        long having = world.titles.stream().filter(t -> t.row.contains(word)).count();
        return new int[] {w.syllables, w.sound, w.sense, (int) having}[what];
    }

    int change(int word, int what, int v) {
        ask(noWord(word) || out(what, 0, 2) || out(v, what == 0 ? 1 : 0, what == 0 ? 6 : 9), Due.BEYOND);
        int was = wordOf(word, what);
        Word w = world.words.get(word);
        w.syllables = what == 0 ? v : w.syllables;
        w.sound = what == 1 ? v : w.sound;
        w.sense = what == 2 ? v : w.sense;
        return was;
    }

    int title(int word) {
        ask(noWord(word), Due.BEYOND);
        ask(world.titles.size() == 24, Due.FULL);
        Title t = new Title();
        t.row.add(word);
        world.titles.add(t);
        return world.titles.size() - 1;
    }

    int more(int title, int word) {
        ask(noTitle(title) || noWord(word), Due.BEYOND);
        Title t = world.titles.get(title);
        ask(t.row.size() == 4, Due.FULL);
        t.row.add(word);
        return t.row.size();
    }

    int ith(int title, int i) {
        ask(noTitle(title) || out(i, 0, 3), Due.BEYOND);
        Title t = world.titles.get(title);
        ask(i >= t.row.size(), Due.NONE);
        return t.row.get(i);
    }

    int know(int title, int band, boolean is) {
        ask(noTitle(title) || out(band, 0, 1), Due.BEYOND);
        boolean was = world.titles.get(title).known[band];
        world.titles.get(title).known[band] = is;
        return was ? 1 : 0;
    }

    int known(int band) {
        ask(out(band, 0, 1), Due.BEYOND);
        return bitsOf(knownTo(band));
    }

    int ofSize(int n) {
        ask(out(n, 1, 4), Due.BEYOND);
        TreeSet<Integer> all = setOf((1 << world.titles.size()) - 1);
        all.removeIf(t -> world.titles.get(t).row.size() != n);
        return bitsOf(all);
    }

    // ---- signs

    int tells(int kind, int i, int title) {
        ask(noSign(kind, i) || noTitle(title), Due.BEYOND);
        return told(4 * kind + i, title);
    }

    int takes(int kind, int i) {
        ask(noSign(kind, i), Due.BEYOND);
        return time(4 * kind + i);
    }

    int parts(int kind, int i, int set) {
        ask(noSign(kind, i) || noSet(set), Due.BEYOND);
        return partsBy(setOf(set), 4 * kind + i).size();
    }

    int worst(int kind, int i, int set) {
        ask(noSign(kind, i) || noSet(set), Due.BEYOND);
        return worstBy(setOf(set), 4 * kind + i);
    }

    int sum(int kind, int i, int set) {
        ask(noSign(kind, i) || noSet(set), Due.BEYOND);
        return sumBy(setOf(set), 4 * kind + i);
    }

    // ---- a slip

    int slip(int title, int band) {
        ask(noTitle(title) || out(band, 0, 1), Due.BEYOND);
        ask(!world.titles.get(title).known[band], Due.STATE);
        world.slip = begun(title, band);
        return world.slip.fitting.size();
    }

    int show(int kind, int i) {
        ask(noSign(kind, i), Due.BEYOND);
        ask(world.slip == null, Due.NONE);
        ask(world.slip.seconds + time(4 * kind + i) > 60, Due.STATE);
        showOn(world.slip, 4 * kind + i);
        return world.slip.fitting.size();
    }

    int now(int what) {
        ask(out(what, 0, 5), Due.BEYOND);
        ask(world.slip == null, Due.NONE);
        PlayedSlip s = world.slip;
        return new int[] {
            s.title, s.band, s.seconds, s.signs, bitsOf(s.fitting), s.isHad() ? 1 : 0}[what];
    }

    int shout(int title) {
        ask(noTitle(title), Due.BEYOND);
        ask(world.slip == null, Due.NONE);
        ask(!world.slip.fitting.contains(title), Due.STATE);
        if (world.slip.title == title) {
            world.slip.fitting.clear();
            world.slip.fitting.add(title);
        } else {
            world.slip.fitting.remove(title);
        }
        return world.slip.fitting.size();
    }

    int end() {
        ask(world.slip == null, Due.NONE);
        int points = world.slip.points();
        world.scores[world.slip.band] += points;
        world.slip = null;
        return points;
    }

    int score(int band) {
        ask(out(band, 0, 1), Due.BEYOND);
        return world.scores[band];
    }

    // ---- which sign

    int best(int set) {
        ask(noSet(set), Due.BEYOND);
        return least(setOf(set), 60, false);
    }

    int mean(int set) {
        ask(noSet(set), Due.BEYOND);
        return least(setOf(set), 60, true);
    }

    int two(int set) {
        ask(noSet(set), Due.BEYOND);
        int best = 25;
        int pair = -1;
        for (int k = 0; k < 28 * 28; k++) {
            int a = k / 28;
            int b = k % 28;
            if (a < b && worstBy(setOf(set), a, b) < best) {
                best = worstBy(setOf(set), a, b);
                pair = 100 * a + b;
            }
        }
        return pair;
    }

    int twoWorst(int set) {
        ask(noSet(set), Due.BEYOND);
        int pair = two(set);
        return worstBy(setOf(set), pair / 100, pair % 100);
    }

    int quick(int set, int s) {
        ask(noSet(set) || out(s, 0, 60), Due.BEYOND);
        int sign = least(setOf(set), s, false);
        ask(sign == -1, Due.NONE);
        return sign;
    }

    int fewest(int title, int set) {
        ask(noTitle(title) || noSet(set) || !setOf(set).contains(title), Due.BEYOND);
        int few = fewestOf(title, setOf(set));
        ask(few == 4, Due.NONE);
        return few;
    }

    int seconds(int title, int set) {
        ask(noTitle(title) || noSet(set) || !setOf(set).contains(title), Due.BEYOND);
        TreeSet<Integer> all = setOf(set);
        if (all.size() == 1) {
            return 0;
        }
        int least = 1000;
        for (int a = 0; a < 28; a++) {
            if (isAlone(title, all, a)) {
                least = Math.min(least, time(a));
            }
            for (int b = 0; b < 28; b++) {
                if (a != b && isAlone(title, all, a, b)) {
                    least = Math.min(least, time(a) + time(b));
                }
            }
        }
        ask(least == 1000, Due.NONE);
        return least;
    }

    int hardest(int set) {
        ask(noSet(set), Due.BEYOND);
        ask(set == 0, Due.NONE);
        int hardest = -1;
        int most = -1;
        for (int t : setOf(set)) {
            int few = fewestOf(t, setOf(set));
            if (few > most) {
                most = few;
                hardest = t;
            }
        }
        return hardest;
    }

    int alike(int set) {
        ask(noSet(set), Due.BEYOND);
        int pairs = 0;
        for (int a : setOf(set)) {
            for (int b : setOf(set).tailSet(a, false)) {
                boolean isAlike = true;
                for (int s = 0; s < 28; s++) {
                    isAlike &= told(s, a) == told(s, b);
                }
                pairs += isAlike ? 1 : 0;
            }
        }
        return pairs;
    }

    // ---- sounds like

    int like(int word) {
        ask(noWord(word), Due.BEYOND);
        Word w = world.words.get(word);
        for (int apart = 0; apart < 6; apart++) {
            for (int o = 0; o < world.words.size(); o++) {
                Word other = world.words.get(o);
                if (o != word && other.sound == w.sound && Math.abs(other.syllables - w.syllables) == apart) {
                    return o;
                }
            }
        }
        throw new Finding(Due.NONE);
    }

    int sense(int word) {
        ask(noWord(word), Due.BEYOND);
        TreeSet<Integer> set = new TreeSet<>();
        for (int o = 0; o < world.words.size(); o++) {
            if (world.words.get(o).sense == world.words.get(word).sense) {
                set.add(o);
            }
        }
        return bitsOf(set);
    }

    int length(int title) {
        ask(noTitle(title), Due.BEYOND);
        return world.titles.get(title).row.stream().mapToInt(w -> world.words.get(w).syllables).sum();
    }

    int rare(int title) {
        ask(noTitle(title), Due.BEYOND);
        List<Integer> row = world.titles.get(title).row;
        int place = 0;
        for (int i = 1; i < row.size(); i++) {
            if (wordOf(row.get(i), 3) < wordOf(row.get(place), 3)) {
                place = i;
            }
        }
        return place;
    }

    // ---- minutes, evenings

    int minute(int title, int band) {
        ask(noTitle(title) || out(band, 0, 1), Due.BEYOND);
        ask(!world.titles.get(title).known[band], Due.STATE);
        return played(title, band).seconds;
    }

    int points(int title, int band) {
        ask(noTitle(title) || out(band, 0, 1), Due.BEYOND);
        ask(!world.titles.get(title).known[band], Due.STATE);
        return played(title, band).points();
    }

    int had(int band) {
        ask(out(band, 0, 1), Due.BEYOND);
        return (int) knownTo(band).stream().filter(t -> played(t, band).isHad()).count();
    }

    int evening(int band, int n) {
        ask(out(band, 0, 1) || out(n, 1, 12), Due.BEYOND);
        List<Integer> titles = new ArrayList<>(knownTo(band));
        ask(titles.isEmpty(), Due.STATE);
        int brought = 0;
        for (int k = 0; k < n; k++) {
            world.z = world.z * 1103515245 + 12345;
            brought += played(titles.get((world.z >>> 8) % titles.size()), band).points();
        }
        world.scores[band] += brought;
        return brought;
    }

    int ahead(int band, int n) {
        World before = world.twin();
        int brought = evening(band, n);
        world = before;
        return brought;
    }

    int hat(int n) {
        ask(out(n, 1, 4), Due.BEYOND);
        int both = known(0) & known(1);
        ask(Integer.bitCount(both) < n, Due.NONE);
        int[] worth = new int[24];
        for (int t : setOf(both)) {
            worth[t] = points(t, 0) + points(t, 1);
        }
        return greatestHat(n, both, worth);
    }

    private int greatestHat(int n, int both, int[] worth) {
        int most = -1;
        int best = 0;
        // Subsets of both from the least up.
        for (int set = both & -both; set != 0; set = (set - both) & both) {
            int sum = 0;
            if (Integer.bitCount(set) == n) {
                for (int t : setOf(set)) {
                    sum += worth[t];
                }
                if (sum > most) {
                    most = sum;
                    best = set;
                }
            }
        }
        return best;
    }

    int unfair() {
        int both = known(0) & known(1);
        ask(both == 0, Due.NONE);
        int most = -1;
        int unfair = -1;
        for (int t : setOf(both)) {
            int apart = Math.abs(points(t, 0) - points(t, 1));
            if (apart > most) {
                most = apart;
                unfair = t;
            }
        }
        return unfair;
    }

    int seed(int v) {
        int was = world.z;
        world.z = v;
        return was;
    }

    // ---- texts

    int feed(int bytes, int n) {
        ask(out(n, 1, 4), Due.BEYOND);
        ask(tape.length() + n > 120, Due.FULL);
        byte[] all = {(byte) (bytes >> 24), (byte) (bytes >> 16), (byte) (bytes >> 8), (byte) bytes};
        for (int k = 4 - n; k < 4; k++) {
            tape.append((char) (all[k] & 255));
        }
        return tape.length();
    }

    int wipe() {
        int was = tape.length();
        tape.setLength(0);
        return was;
    }

    private static final Pattern TOKEN = Pattern.compile(" *([a-z]+|[0-9]+|[^ ])");

    private static final class Fault extends RuntimeException {
        private static final long serialVersionUID = 1L;
    }

    private List<String> tokens;
    private int nextToken;

    private String peek() {
        return nextToken < tokens.size() ? tokens.get(nextToken) : "";
    }

    private void want(boolean is) {
        if (!is) {
            throw new Fault();
        }
        nextToken++;
    }

    private int number(int low, int high) {
        String t = peek();
        boolean isNumber = t.matches("[0-9]+");
        boolean isGood = isNumber && t.replaceFirst("^0+", "").length() <= 3 && !out(Integer.parseInt(t), low, high);
        want(isGood);
        return Integer.parseInt(t);
    }

    int text() {
        tokens = new ArrayList<>();
        List<Integer> places = new ArrayList<>();
        Matcher all = TOKEN.matcher(tape);
        while (all.find()) {
            tokens.add(all.group(1));
            places.add(all.start(1));
        }
        places.add(tape.length());
        tape.setLength(0);
        World before = world.twin();
        nextToken = 0;
        try {
            item();
            int items = 1;
            while (nextToken < tokens.size()) {
                want(peek().equals(";"));
                item();
                items++;
            }
            return items;
        } catch (Fault f) {
            world = before;
            return -1 - places.get(nextToken);
        }
    }

    private void item() {
        if (peek().equals("word")) {
            want(world.words.size() < 16);
            int syllables = number(1, 6);
            int sound = choice("sound");
            int sense = choice("sense");
            word(syllables, sound, sense);
        } else if (peek().equals("title")) {
            want(world.titles.size() < 24);
            int t = title(number(0, world.words.size() - 1));
            for (int k = 1; k < 4 && peek().matches("[0-9]+"); k++) {
                more(t, number(0, world.words.size() - 1));
            }
        } else {
            want(peek().equals("only"));
            int t = number(0, world.titles.size() - 1);
            int band = number(0, 1);
            know(t, band, true);
            know(t, 1 - band, false);
        }
    }

    private int choice(String name) {
        if (!peek().equals(name)) {
            return 0;
        }
        nextToken++;
        return number(0, 9);
    }

    // ---- spots, sheets

    int hold(int spot, int sign) {
        ask(out(spot, 0, 9) || out(sign, -1, 27), Due.BEYOND);
        world.spots[spot] = sign == -1 ? null : sign;
        return 1;
    }

    int as(int spot, int kind) {
        ask(out(spot, 0, 9) || out(kind, 0, 6), Due.BEYOND);
        ask(world.spots[spot] == null, Due.MISSING);
        ask(!KINDS[kind].getClass().isInstance(KINDS[world.spots[spot] / 4]), Due.KIND);
        return world.spots[spot] % 4;
    }

    int sheet(int s, int bits, int n) {
        ask(out(s, 0, 3) || !Arrays.asList(0, 8, 16, 32).contains(bits), Due.BEYOND);
        ask(n < 0, Due.SIZE);
        ask(n > 40, Due.BEYOND);
        sheets[s] = bits == 0 ? null : new long[n];
        sheetBits[s] = bits;
        return bits == 0 ? 0 : n;
    }

    int write(int s, int i, int v) {
        ask(out(s, 0, 3), Due.BEYOND);
        ask(sheets[s] == null, Due.MISSING);
        ask(out(i, 0, sheets[s].length - 1), Due.BEYOND);
        long range = 1L << sheetBits[s];
        long low = Math.floorMod((long) v, range);
        sheets[s][i] = low >= range / 2 ? low - range : low;
        return 1;
    }

    int copy(int s, int from, int t, int to, int n) {
        ask(out(s, 0, 3) || out(t, 0, 3), Due.BEYOND);
        ask(sheets[s] == null || sheets[t] == null, Due.MISSING);
        ask(sheetBits[s] != sheetBits[t], Due.KIND);
        ask(from < 0 || to < 0 || n < 0, Due.BEYOND);
        ask((long) from + n > sheets[s].length || (long) to + n > sheets[t].length, Due.BEYOND);
        long[] were = sheets[s].clone();
        for (int k = 0; k < n; k++) {
            sheets[t][to + k] = were[from + k];
        }
        return n;
    }

    int load(int s) {
        ask(out(s, 0, 3), Due.BEYOND);
        ask(sheets[s] == null, Due.MISSING);
        int came = 0;
        for (long v : sheets[s]) {
            if (v < 0 || v > 9 || came == world.words.size()) {
                break;
            }
            world.words.get(came).sense = (int) v;
            came++;
        }
        return came;
    }

    int judge(int s) {
        ask(out(s, 0, 3), Due.BEYOND);
        ask(sheets[s] == null, Due.MISSING);
        TreeSet<Integer> set = setOf((1 << world.titles.size()) - 1);
        for (int k = 0; k < sheets[s].length / 2; k++) {
            long sign = sheets[s][2 * k];
            long v = sheets[s][2 * k + 1];
            ask(sign < 0 || sign > 27, Due.STATE);
            set.removeIf(t -> told((int) sign, t) != v);
        }
        return bitsOf(set);
    }

    // ---- images

    int image() {
        kept = world.twin();
        return 1;
    }

    int undo() {
        ask(kept == null, Due.NONE);
        world = kept.twin();
        return world.titles.size();
    }

    int tear() {
        int was = kept == null ? 0 : 1;
        kept = null;
        return was;
    }

    int count(int what) {
        ask(out(what, 0, 6), Due.BEYOND);
        int syllables = world.words.stream().mapToInt(w -> w.syllables).sum();
        int held = (int) Arrays.stream(world.spots).filter(s -> s != null).count();
        return new int[] {world.words.size(), world.titles.size(), world.scores[0] + world.scores[1],
            syllables, tape.length(), world.z, held}[what];
    }

    int status(int which) {
        ask(out(which, -1, 6), Due.BEYOND);
        return which == -1 ? Arrays.stream(found).sum() : found[which];
    }
}
