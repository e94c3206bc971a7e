import java.lang.reflect.InvocationTargetException;
import java.lang.reflect.Method;
import java.util.ArrayList;
import java.util.Arrays;
import java.util.HashMap;
import java.util.List;
import java.util.Map;
import java.util.TreeMap;

/** Checks that each stand under one sentence of the document, and how many stand under which. */
final class Edges {
    /** The number under which sentences of the section "Terms" stand. */
    static final int TERMS = 0;
    /** Likewise for the section "What it is". */
    static final int USE = -1;
    static final int LEAST = Integer.MIN_VALUE;
    static final int MOST = Integer.MAX_VALUE;

    private static final Map<String, Method> FACE = new HashMap<>();

    static {
        for (Method m : TitleMimes.class.getMethods()) {
            FACE.put(m.getName(), m);
        }
    }

    private final Due due = new Due();
    private final Map<String, Integer> checks = new TreeMap<>();
    private String sentence = "";

    static String key(int promise, String words) {
        if (promise == USE) {
            return "What it is: " + words;
        }
        return (promise == TERMS ? "Terms: " : "Promise " + promise + ": ") + words;
    }

    /** What is checked from here on stands under that sentence. */
    void under(int promise, String words) {
        sentence = key(promise, words);
        checks.putIfAbsent(sentence, 0);
    }

    /** How many checks stand under each sentence. */
    Map<String, Integer> checks() {
        return checks;
    }

    Due all() {
        return due;
    }

    void due(String what, int got, int want) {
        checks.merge(sentence, 1, Integer::sum);
        due.due("[" + sentence + "] " + what, got, want);
    }

    /** Feeds a text and reads it. */
    void reads(TitleMimes x, String text, int want) {
        due("text '" + text + "'", Due.read(x, text), want);
    }

    /** A call answers as is due and changes nothing, status() neither. */
    void asks(Rig rig, int want, String name, Object... arguments) {
        leaves(rig, want, -1, name, arguments);
    }

    /** A call answers a finding and changes nothing but status(). */
    void refuses(Rig rig, int finding, String name, Object... arguments) {
        leaves(rig, finding, Due.BEYOND - finding, name, arguments);
    }

    /** A call is BEYOND with each of these in the place of one of its arguments. */
    void outside(Rig rig, int place, int[] wrong, String name, Object... arguments) {
        for (int v : wrong) {
            Object[] changed = arguments.clone();
            changed[place] = v;
            refuses(rig, Due.BEYOND, name, changed);
        }
    }

    /** A text has its FAULT there: nothing changes but that the tape is empty, status() neither. */
    void faults(Rig rig, String text, int place) {
        TitleMimes x = rig.build();
        TitleMimes twin = rig.build();
        twin.wipe();
        due("text '" + text + "'", Due.read(x, text), -1 - place);
        statuses("text '" + text + "'", x, twin, -1);
        same("text '" + text + "'", x, twin);
    }

    static int[] row(int... numbers) {
        return numbers;
    }

    /** What is just outside of a range, and far outside. */
    static int[] off(int low, int high) {
        return row(low - 1, high + 1, LEAST, MOST, -Due.BEYOND);
    }

    private void leaves(Rig rig, int want, int finding, String name, Object... arguments) {
        TitleMimes x = rig.build();
        TitleMimes twin = rig.build();
        String call = name + Arrays.toString(arguments);
        due(call, call(x, name, arguments), want);
        statuses(call, x, twin, finding);
        same(call, x, twin);
    }

    /** One more of a finding (and in all), of the others as many as the twin has; finding -1 is none. */
    private void statuses(String call, TitleMimes x, TitleMimes twin, int finding) {
        int[] is = Probe.statuses(x);
        int[] was = Probe.statuses(twin);
        for (int k = 0; k < is.length; k++) {
            boolean isCounted = finding >= 0 && (k == 0 || k == finding + 1);
            due("status(" + (k - 1) + ") after " + call, is[k], was[k] + (isCounted ? 1 : 0));
        }
    }

    /** All that can be seen of two objects is the same, but for status(); both are spent by that. */
    void same(String what, TitleMimes x, TitleMimes twin) {
        checks.merge(sentence, 1, Integer::sum);
        List<String> is = Probe.of(x);
        List<String> was = Probe.of(twin);
        List<String> other = new ArrayList<>(is);
        other.removeAll(was);
        if (is.size() != was.size() || !other.isEmpty()) {
            due.fail("[" + sentence + "] " + what + ": not as it was: " + other);
        }
    }

    private static int call(TitleMimes x, String name, Object... arguments) {
        try {
            return (Integer) FACE.get(name).invoke(x, arguments);
        } catch (IllegalAccessException | InvocationTargetException e) {
            throw new IllegalStateException(name + Arrays.toString(arguments), e);
        }
    }
}
