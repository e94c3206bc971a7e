/** Promises 1 to 10: a new object, words, titles. */
final class WordsEdges {
    private static final int ALL = (1 << 24) - 1;
    private final Edges e;

    private WordsEdges(Edges e) {
        this.e = e;
    }

    static void run(Edges e) {
        WordsEdges w = new WordsEdges(e);
        w.newObject();
        w.word();
        w.wordOf();
        w.change();
        w.title();
        w.more();
        w.ith();
        w.know();
        w.known();
        w.ofSize();
    }

    private void newObject() {
        e.under(1, "All as at first; no WORDS, TITLES; THE TAPE is empty, no image is kept.");
        Rig.rich();
        TitleMimes x = new TitleMimes();
        int[] statuses = Probe.statuses(x);
        for (int k = 0; k < 8; k++) {
            e.due("status(" + (k - 1) + ")", statuses[k], 0);
        }
        int[] counts = {0, 0, 0, 0, 0, 1, 0};
        for (int what = 0; what < 7; what++) {
            e.due("count(" + what + ")", x.count(what), counts[what]);
        }
        for (int band = 0; band < 2; band++) {
            e.due("known(" + band + ")", x.known(band), 0);
            e.due("score(" + band + ")", x.score(band), 0);
        }
        for (int what = 0; what < 6; what++) {
            e.due("now(" + what + ")", x.now(what), Due.NONE);
        }
        for (int spot = 0; spot < 10; spot++) {
            e.due("as(" + spot + ", 0)", x.as(spot, 0), Due.MISSING);
        }
        for (int s = 0; s < 4; s++) {
            e.due("write(" + s + ", 0, 0)", x.write(s, 0, 0), Due.MISSING);
        }
        e.due("wordOf(0, 0)", x.wordOf(0, 0), Due.BEYOND);
        e.due("ith(0, 0)", x.ith(0, 0), Due.BEYOND);
        e.due("wipe()", x.wipe(), 0);
        e.due("undo()", x.undo(), Due.NONE);
        e.due("tear()", x.tear(), 0);
        e.due("seed(9)", x.seed(9), 1);
    }

    private void word() {
        e.under(2, "A new WORD: its number.");
        TitleMimes x = new TitleMimes();
        e.due("the least of all", x.word(1, 0, 0), 0);
        e.due("the most of all", x.word(6, 9, 9), 1);
        e.due("a word as one before", x.word(1, 0, 0), 2);
        int[][] want = {{1, 0, 0, 0}, {6, 9, 9, 0}, {1, 0, 0, 0}};
        for (int w = 0; w < 3; w++) {
            for (int what = 0; what < 4; what++) {
                e.due("wordOf(" + w + ", " + what + ")", x.wordOf(w, what), want[w][what]);
            }
        }
        e.under(2, "BEYOND.");
        e.outside(Rig::rich, 0, Edges.off(1, 6), "word", 1, 0, 0);
        e.outside(Rig::rich, 1, Edges.off(0, 9), "word", 1, 0, 0);
        e.outside(Rig::rich, 2, Edges.off(0, 9), "word", 1, 0, 0);
        e.under(2, "FULL.");
        x = new TitleMimes();
        for (int w = 0; w < 16; w++) {
            e.due("word " + w, x.word(6, 9, 9), w);
        }
        e.due("a 17th word", x.word(6, 9, 9), Due.FULL);
        e.refuses(Rig::full, Due.FULL, "word", 1, 0, 0);
        x = Rig.full();
        x.undo();
        e.due("room again after undo()", x.word(1, 0, 0), 0);
    }

    private void wordOf() {
        e.under(3, "Of a WORD: what 0 SYLLABLES, 1 SOUND, 2 SENSE, 3 how many TITLES have it.");
        int[][] want = {{1, 0, 0, 3}, {2, 3, 4, 5}, {2, 5, 1, 3}, {3, 2, 5, 3}};
        for (int w = 0; w < 4; w++) {
            for (int what = 0; what < 4; what++) {
                e.asks(Rig::rich, want[w][what], "wordOf", w, what);
            }
        }
        TitleMimes x = Rig.game("100 100", "0000 1");
        e.due("a word four times in one title", x.wordOf(0, 3), 1);
        for (int t = 2; t < 24; t++) {
            x.title(0);
        }
        e.due("a word of 23 titles", x.wordOf(0, 3), 23);
        x.more(1, 0);
        e.due("a word of 24 titles", x.wordOf(0, 3), 24);
        e.due("a word of one title", x.wordOf(1, 3), 1);
        e.due("a word of none", Rig.game("100 100", "0").wordOf(1, 3), 0);
        e.under(3, "BEYOND.");
        e.outside(Rig::rich, 0, Edges.off(0, 3), "wordOf", 0, 0);
        e.outside(Rig::rich, 1, Edges.off(0, 3), "wordOf", 0, 0);
        e.refuses(Rig::empty, Due.BEYOND, "wordOf", 0, 0);
        e.refuses(Rig::full, Due.BEYOND, "wordOf", 16, 0);
    }

    private void change() {
        e.under(4, "SYLLABLES (what 0), SOUND (1), SENSE (2) of a WORD becomes v: what it was.");
        TitleMimes x = Rig.game("234 567", "0");
        int[] was = {5, 6, 7};
        int[][] edges = {{1, 6}, {0, 9}, {0, 9}};
        for (int what = 0; what < 3; what++) {
            e.due("change to the least", x.change(1, what, edges[what][0]), was[what]);
            e.due("change to the most", x.change(1, what, edges[what][1]), edges[what][0]);
            e.due("change to the same", x.change(1, what, edges[what][1]), edges[what][1]);
            e.due("wordOf(1, " + what + ")", x.wordOf(1, what), edges[what][1]);
            e.due("wordOf(0, " + what + ") stays", x.wordOf(0, what), what + 2);
        }
        e.under(4, "BEYOND.");
        e.outside(Rig::rich, 0, Edges.off(0, 3), "change", 0, 0, 1);
        e.outside(Rig::rich, 1, Edges.off(0, 2), "change", 0, 0, 1);
        e.outside(Rig::rich, 2, Edges.off(1, 6), "change", 0, 0, 1);
        e.outside(Rig::rich, 2, Edges.off(0, 9), "change", 3, 1, 1);
        e.outside(Rig::rich, 2, Edges.off(0, 9), "change", 3, 2, 1);
        e.refuses(Rig::empty, Due.BEYOND, "change", 0, 0, 1);
        e.refuses(Rig::full, Due.BEYOND, "change", 16, 0, 1);
    }

    private void title() {
        e.under(5, "A new TITLE of one WORD: its number.");
        TitleMimes x = Rig.game("100 200", "");
        e.due("title(1)", x.title(1), 0);
        e.due("title(1), one like it", x.title(1), 1);
        e.due("title(0)", x.title(0), 2);
        e.due("ith(0, 0)", x.ith(0, 0), 1);
        e.due("ith(2, 0)", x.ith(2, 0), 0);
        e.due("ofSize(1)", x.ofSize(1), 7);
        e.due("known(0)", x.known(0), 7);
        e.due("known(1)", x.known(1), 7);
        e.under(5, "BEYOND.");
        e.outside(Rig::rich, 0, Edges.off(0, 3), "title", 0);
        e.refuses(Rig::empty, Due.BEYOND, "title", 0);
        e.refuses(Rig::full, Due.BEYOND, "title", 16);
        e.under(5, "FULL.");
        x = Rig.game("100", "");
        for (int t = 0; t < 24; t++) {
            e.due("title " + t, x.title(0), t);
        }
        e.due("a 25th title", x.title(0), Due.FULL);
        e.due("known(0)", x.known(0), ALL);
        e.refuses(Rig::full, Due.FULL, "title", 0);
    }

    private void more() {
        e.under(6, "A WORD comes behind a TITLE: how many it has.");
        TitleMimes x = Rig.game("100 200", "0 1");
        for (int n = 2; n <= 4; n++) {
            e.due("a word more", x.more(0, n % 2), n);
            e.due("ith(0, " + (n - 1) + ")", x.ith(0, n - 1), n % 2);
        }
        e.due("the next title stays", x.ith(1, 0), 1);
        e.due("the next title is as long", x.ith(1, 1), Due.NONE);
        e.under(6, "BEYOND.");
        e.outside(Rig::rich, 0, Edges.off(0, 6), "more", 0, 0);
        e.outside(Rig::rich, 1, Edges.off(0, 3), "more", 0, 0);
        e.refuses(Rig::empty, Due.BEYOND, "more", 0, 0);
        e.refuses(Rig::full, Due.BEYOND, "more", 24, 0);
        e.refuses(Rig::full, Due.BEYOND, "more", 0, 16);
        e.under(6, "FULL: it has 4.");
        e.due("a fifth word", x.more(0, 0), Due.FULL);
        e.refuses(Rig::rich, Due.FULL, "more", 5, 0);
        e.refuses(Rig::full, Due.FULL, "more", 23, 15);
    }

    private void ith() {
        e.under(7, "The i-th WORD (0 to 3) of a TITLE.");
        int[] row = {2, 0, 1, 3};
        for (int i = 0; i < 4; i++) {
            e.asks(Rig::rich, row[i], "ith", 5, i);
        }
        e.asks(Rig::rich, 0, "ith", 0, 0);
        e.asks(Rig::full, 2, "ith", 23, 3);
        e.under(7, "BEYOND.");
        e.outside(Rig::rich, 0, Edges.off(0, 6), "ith", 0, 0);
        e.outside(Rig::rich, 1, Edges.off(0, 3), "ith", 5, 0);
        e.refuses(Rig::empty, Due.BEYOND, "ith", 0, 0);
        e.refuses(Rig::full, Due.BEYOND, "ith", 24, 0);
        e.under(7, "NONE.");
        for (int i = 1; i < 4; i++) {
            e.refuses(Rig::rich, Due.NONE, "ith", 0, i);
        }
        e.refuses(Rig::rich, Due.NONE, "ith", 3, 3);
        e.due("there once it has come", Rig.game("100 200", "0001").ith(0, 3), 1);
    }

    private void know() {
        e.under(8, "A BAND (0, 1) KNOWS a TITLE, or not: 1 if it did, else 0.");
        for (int band = 0; band < 2; band++) {
            TitleMimes x = Rig.full();
            e.due("know it still", x.know(23, band, true), 1);
            e.due("know it no more", x.know(23, band, false), 1);
            e.due("known", x.known(band), ALL >> 1);
            e.due("to the other band it stays known", x.known(1 - band), ALL);
            e.due("know it no more, again", x.know(23, band, false), 0);
            e.due("know it again", x.know(23, band, true), 0);
            e.due("known again", x.known(band), ALL);
            e.due("know the first no more", x.know(0, band, false), 1);
            e.due("known but the first", x.known(band), ALL - 1);
        }
        e.under(8, "BEYOND.");
        e.outside(Rig::rich, 0, Edges.off(0, 6), "know", 0, 0, false);
        e.outside(Rig::rich, 1, Edges.off(0, 1), "know", 0, 0, false);
        e.outside(Rig::rich, 0, Edges.off(0, 6), "know", 0, 1, true);
        e.refuses(Rig::empty, Due.BEYOND, "know", 0, 0, true);
        e.refuses(Rig::full, Due.BEYOND, "know", 24, 0, true);
    }

    private void known() {
        e.under(9, "TITLES that a BAND KNOWS, as a set.");
        e.asks(Rig::empty, 0, "known", 0);
        e.asks(Rig::rich, 125, "known", 0);
        e.asks(Rig::rich, 111, "known", 1);
        e.asks(Rig::full, ALL, "known", 0);
        e.asks(Rig::full, ALL, "known", 1);
        e.under(9, "BEYOND.");
        e.outside(Rig::rich, 0, Edges.off(0, 1), "known", 0);
        e.outside(Rig::empty, 0, Edges.off(0, 1), "known", 0);
    }

    private void ofSize() {
        e.under(10, "TITLES of n WORDS (1 to 4), as a set.");
        int[] sets = {1 | 2 | 16, 4 | 64, 8, 32};
        for (int n = 1; n <= 4; n++) {
            e.asks(Rig::rich, sets[n - 1], "ofSize", n);
            e.asks(Rig::empty, 0, "ofSize", n);
        }
        e.asks(Rig::full, 1 << 23, "ofSize", 4);
        e.asks(Rig::full, ALL >> 1, "ofSize", 1);
        e.due("known to neither band", neither().ofSize(1), 1);
        e.under(10, "BEYOND.");
        e.outside(Rig::rich, 0, Edges.off(1, 4), "ofSize", 1);
    }

    private static TitleMimes neither() {
        TitleMimes x = Rig.game("100", "0");
        x.know(0, 0, false);
        x.know(0, 1, false);
        return x;
    }
}
