import java.lang.reflect.InvocationTargetException;
import java.lang.reflect.Method;
import java.lang.reflect.Modifier;
import java.util.ArrayList;
import java.util.Arrays;
import java.util.HashMap;
import java.util.HashSet;
import java.util.List;
import java.util.Map;
import java.util.Random;

/** All promises: runs of calls by chance (the same each time), answered as the model does. */
public final class ModelTest {
    private static final int RUNS = 250;
    private static final int CALLS = 460;
    private static final Due D = new Due();

    /** A letter for each argument: see argument(). */
    private static final String[] SHAPES = {
        "word:yff", "wordOf:wq", "change:wqv", "title:w", "more:tw", "ith:tp", "know:tbx", "known:b",
        "ofSize:c", "tells:kpt", "takes:kp", "parts:kps", "worst:kps", "sum:kps", "slip:tb", "show:kp",
        "now:o", "shout:t", "end:", "score:b", "best:s", "mean:s", "two:s", "twoWorst:s", "quick:sm",
        "fewest:ts", "seconds:ts", "hardest:s", "alike:s", "like:w", "sense:w", "length:t", "rare:t",
        "minute:tb", "points:tb", "had:b", "evening:be", "ahead:be", "hat:c", "unfair:", "seed:i",
        "feed:ic", "wipe:", "text:", "hold:gj", "as:gk", "sheet:hun", "write:hri", "copy:hrhrr",
        "load:h", "judge:h", "image:", "undo:", "tear:", "count:o", "status:o"};
    /** Slow in the model, so called less. */
    private static final List<String> DEAR = Arrays.asList("hardest", "fewest", "two", "twoWorst", "hat", "unfair");

    private static final Map<String, Method> OF_CLASS = new HashMap<>();
    private static final Map<String, Method> OF_MODEL = new HashMap<>();

    public static void main(String[] args) throws ReflectiveOperationException {
        fillFace();
        for (int run = 0; run < RUNS && D.isClean(); run++) {
            run(run);
        }
        D.finish();
    }

    private static void fillFace() {
        for (Method m : TitleMimes.class.getDeclaredMethods()) {
            if (Modifier.isPublic(m.getModifiers())) {
                OF_CLASS.put(m.getName(), m);
            }
        }
        for (Method m : Model.class.getDeclaredMethods()) {
            if (!Modifier.isPrivate(m.getModifiers()) && !m.isSynthetic()) {
                OF_MODEL.put(m.getName(), m);
            }
        }
        List<String> names = new ArrayList<>();
        for (String shape : SHAPES) {
            names.add(shape.substring(0, shape.indexOf(':')));
        }
        if (!OF_CLASS.keySet().equals(new HashSet<>(names))) {
            D.fail("the face has other methods than the model");
        }
    }

    private static void run(int number) throws ReflectiveOperationException {
        Random chance = new Random(7919L * number + 1);
        TitleMimes x = new TitleMimes();
        Model m = new Model();
        List<String> log = new ArrayList<>();
        int words = 1 + chance.nextInt(16);
        int titles = chance.nextInt(10) == 0 ? 24 : chance.nextInt(14);
        int spread = 1 + chance.nextInt(9);
        for (int k = 0; k < words; k++) {
            call(x, m, log, "word", 1 + chance.nextInt(Math.min(6, spread)), chance.nextInt(spread), chance.nextInt(spread));
        }
        for (int k = 0; k < titles; k++) {
            call(x, m, log, "title", chance.nextInt(words));
            for (int more = chance.nextInt(4); more > 0; more--) {
                call(x, m, log, "more", k, chance.nextInt(words));
            }
        }
        while (log.size() < CALLS && D.isClean()) {
            step(x, m, log, chance);
        }
        for (int which = -1; which < 7 && D.isClean(); which++) {
            call(x, m, log, "status", which);
        }
        if (!D.isClean()) {
            System.out.println("run " + number + ": " + log);
        }
    }

    private static void step(TitleMimes x, Model m, List<String> log, Random chance)
            throws ReflectiveOperationException {
        int pick = chance.nextInt(SHAPES.length + 6);
        if (pick >= SHAPES.length) {
            if (pick == SHAPES.length) {
                wholeText(x, m, log, chance);
            } else if (pick == SHAPES.length + 1) {
                fullSheet(x, m, log, chance);
            } else {
                slipCalls(x, m, log, chance);
            }
            return;
        }
        String shape = SHAPES[pick];
        String name = shape.substring(0, shape.indexOf(':'));
        if (DEAR.contains(name) && chance.nextInt(4) != 0) {
            return;
        }
        if (name.equals("undo") && chance.nextInt(3) != 0) {
            return;
        }
        String letters = shape.substring(shape.indexOf(':') + 1);
        Object[] arguments = new Object[letters.length()];
        for (int k = 0; k < arguments.length; k++) {
            arguments[k] = argument(letters.charAt(k), m, chance);
        }
        call(x, m, log, name, arguments);
    }

    private static Object argument(char letter, Model m, Random chance) {
        if (letter == 'x') {
            return chance.nextInt(3) != 0;
        }
        if (letter == 'i') {
            return chance.nextBoolean() ? chance.nextInt() : chance.nextInt(40) - 5;
        }
        if (letter == 's' && chance.nextInt(25) != 0) {
            int all = (1 << m.count(1)) - 1;
            return chance.nextInt(4) == 0 ? all : chance.nextInt() & all;
        }
        if (chance.nextInt(60) == 0) {
            int[] wild = {Integer.MIN_VALUE, Integer.MAX_VALUE, -1000001, 1 << 24, 255, 32, 61};
            return wild[chance.nextInt(wild.length)];
        }
        switch (letter) {
            case 'y': return chance.nextInt(40) == 0 ? 0 : 1 + chance.nextInt(6 + chance.nextInt(2));
            case 'f': return chance.nextInt(10 + chance.nextInt(20) / 19);
            case 'v': return chance.nextInt(11);
            case 'w': return near(m.count(0), chance);
            case 't': return near(m.count(1), chance);
            case 'b': return near(2, chance);
            case 'k': return near(7, chance);
            case 'p': return near(4, chance);
            case 'q': return near(4, chance);
            case 'c': return 1 + near(4, chance);
            case 'o': return near(7, chance);
            case 'm': return near(61, chance) / (1 + chance.nextInt(9));
            case 'e': return 1 + near(12, chance);
            case 'g': return near(10, chance);
            case 'h': return near(4, chance);
            case 'j': return chance.nextInt(5) == 0 ? -1 : near(28, chance);
            case 'r': return near(5, chance);
            case 'u': return new int[] {8, 8, 16, 16, 32, 32, 0, 7}[chance.nextInt(8)];
            case 'n': return near(chance.nextBoolean() ? 41 : 6, chance);
            default: return chance.nextInt();
        }
    }

    /** Mostly 0 to n - 1, seldom just below or above. */
    private static int near(int n, Random chance) {
        return chance.nextInt(12) == 0 || n == 0 ? chance.nextInt(n + 2) - 1 : chance.nextInt(n);
    }

    private static void slipCalls(TitleMimes x, Model m, List<String> log, Random chance)
            throws ReflectiveOperationException {
        call(x, m, log, "slip", near(m.count(1), chance), near(2, chance));
        for (int k = chance.nextInt(6); k > 0; k--) {
            if (chance.nextInt(4) == 0) {
                call(x, m, log, "shout", near(m.count(1), chance));
            } else {
                call(x, m, log, "show", near(7, chance), near(4, chance));
            }
            call(x, m, log, "now", near(6, chance));
        }
        if (chance.nextBoolean()) {
            call(x, m, log, "end");
        }
    }

    /** A sheet whose numbers are signs and what they tell of a title, or senses. */
    private static void fullSheet(TitleMimes x, Model m, List<String> log, Random chance)
            throws ReflectiveOperationException {
        int s = chance.nextInt(4);
        int n = chance.nextInt(6);
        int titles = m.count(1);
        call(x, m, log, "sheet", s, new int[] {8, 16, 32}[chance.nextInt(3)], n);
        int title = titles == 0 ? 0 : chance.nextInt(titles);
        for (int k = 0; k < n; k += 2) {
            int sign = chance.nextInt(40) == 0 ? 28 : chance.nextInt(28);
            int told = titles == 0 || chance.nextInt(8) == 0 ? 1 : m.tells(sign / 4 % 7, sign % 4, title);
            call(x, m, log, "write", s, k, sign);
            call(x, m, log, "write", s, k + 1, told);
        }
        call(x, m, log, "judge", s);
        call(x, m, log, "load", s);
    }

    private static void wholeText(TitleMimes x, Model m, List<String> log, Random chance)
            throws ReflectiveOperationException {
        String[] tokens = {"word", "title", "only", "sound", "sense", ";", ",", "x", "0", "1000", "12", "Word"};
        StringBuilder text = new StringBuilder();
        for (int items = 1 + chance.nextInt(4); items > 0; items--) {
            text.append(item(m, chance));
            text.append(items > 1 ? " ; ".substring(chance.nextInt(2), 2 + chance.nextInt(2)) : "");
        }
        if (chance.nextInt(3) == 0) {
            int at = chance.nextInt(text.length());
            String token = tokens[chance.nextInt(tokens.length)];
            text.replace(at, Math.min(text.length(), at + chance.nextInt(3)), token);
        }
        if (chance.nextInt(6) == 0) {
            text.setLength(chance.nextInt(text.length() + 1));
        }
        call(x, m, log, "wipe");
        for (int k = 0; k < text.length() && k < 120; ) {
            int n = Math.min(4, text.length() - k);
            int bytes = 0;
            for (int j = 0; j < n; j++) {
                bytes = bytes << 8 | text.charAt(k + j);
            }
            call(x, m, log, "feed", bytes, n);
            k += n;
        }
        call(x, m, log, "text");
    }

    private static String item(Model m, Random chance) {
        StringBuilder item = new StringBuilder();
        switch (chance.nextInt(3)) {
            case 0:
                item.append("word ").append(near(7, chance));
                item.append(chance.nextBoolean() ? " sound " + near(10, chance) : "");
                item.append(chance.nextBoolean() ? " sense" + near(10, chance) : "");
                break;
            case 1:
                item.append("title");
                for (int k = 1 + near(4, chance); k > 0; k--) {
                    item.append(' ').append(Math.abs(near(m.count(0), chance)));
                }
                break;
            default:
                item.append("only ").append(near(m.count(1), chance)).append(' ').append(chance.nextInt(2));
                break;
        }
        return item.toString();
    }

    private static void call(TitleMimes x, Model m, List<String> log, String name, Object... arguments)
            throws ReflectiveOperationException {
        String call = name + Arrays.toString(arguments);
        log.add(call);
        int got = (Integer) OF_CLASS.get(name).invoke(x, arguments);
        int want = answer(m, name, arguments);
        D.due("call " + log.size() + ", " + call, got, want);
    }

    private static int answer(Model m, String name, Object... arguments) throws ReflectiveOperationException {
        try {
            return (Integer) OF_MODEL.get(name).invoke(m, arguments);
        } catch (InvocationTargetException e) {
            if (e.getCause() instanceof Model.Finding f) {
                m.found[Due.BEYOND - f.number]++;
                return f.number;
            }
            throw e;
        }
    }
}
