import java.util.ArrayList;
import java.util.List;

/** Asks an object all that can be seen of it. What is kept of it is spent by that. */
final class Probe {
    private static final int MOST_NUMBERS = 40;
    private final TitleMimes x;
    private final List<String> seen = new ArrayList<>();

    private Probe(TitleMimes x) {
        this.x = x;
    }

    /** status(-1), then status(0) to status(6). */
    static int[] statuses(TitleMimes x) {
        int[] all = new int[8];
        for (int k = 0; k < 8; k++) {
            all[k] = x.status(k - 1);
        }
        return all;
    }

    static List<String> of(TitleMimes x) {
        Probe p = new Probe(x);
        p.stock("now");
        p.kinship();
        for (int s = 0; s < 4; s++) {
            p.sheet(s);
        }
        p.tape();
        p.see("undo()", x.undo());
        p.stock("kept");
        p.see("tear()", x.tear());
        p.see("undo(), torn", x.undo());
        return p.seen;
    }

    private void see(String call, int answer) {
        seen.add(call + " answers " + answer);
    }

    private void stock(String when) {
        for (int what = 0; what < 7; what++) {
            see(when + ": count(" + what + ")", x.count(what));
        }
        for (int band = 0; band < 2; band++) {
            see(when + ": known(" + band + ")", x.known(band));
            see(when + ": score(" + band + ")", x.score(band));
        }
        for (int what = 0; what < 6; what++) {
            see(when + ": now(" + what + ")", x.now(what));
        }
        for (int w = 0; w < x.count(0); w++) {
            for (int what = 0; what < 3; what++) {
                see(when + ": wordOf(" + w + ", " + what + ")", x.wordOf(w, what));
            }
        }
        for (int t = 0; t < x.count(1); t++) {
            for (int i = 0; i < 4; i++) {
                see(when + ": ith(" + t + ", " + i + ")", x.ith(t, i));
            }
        }
        for (int spot = 0; spot < 10; spot++) {
            boolean isHeld = x.as(spot, 0) >= 0;
            for (int kind = 0; kind < (isHeld ? 7 : 1); kind++) {
                see(when + ": as(" + spot + ", " + kind + ")", x.as(spot, kind));
            }
        }
    }

    /** Which sheets are there, and which of as many bits. */
    private void kinship() {
        for (int s = 0; s < 4; s++) {
            for (int t = s; t < 4; t++) {
                see("copy(" + s + ", 0, " + t + ", 0, 0)", x.copy(s, 0, t, 0, 0));
            }
        }
    }

    private void sheet(int s) {
        int size = 0;
        while (size < MOST_NUMBERS && x.copy(s, size, s, size, 1) == 1) {
            size++;
        }
        see("numbers of sheet " + s, size);
        if (size > 0 && x.count(0) == 0) {
            x.word(1, 0, 0);
        }
        for (int i = 0; i < size; i++) {
            x.copy(s, i, s, 0, 1);
            see("number " + i + " of sheet " + s, asSense(s));
        }
        for (int bits = 8; bits <= 16 && size > 0; bits += 8) {
            x.write(s, 0, 1 << bits);
            see("sheet " + s + " of " + bits + " bits", asSense(s));
        }
    }

    /** The first number of a sheet if it is a sense, else -1. */
    private int asSense(int s) {
        return x.load(s) > 0 ? x.wordOf(0, 2) : -1;
    }

    private void tape() {
        see("text()", x.text());
        int words = x.count(0);
        see("words by then", words);
        see("titles by then", x.count(1));
        for (int what = 0; what < 4; what++) {
            see("wordOf(last, " + what + ")", x.wordOf(words - 1, what));
        }
        for (int i = 0; i < 4; i++) {
            see("ith(last, " + i + ")", x.ith(x.count(1) - 1, i));
        }
    }
}
