/** Promises 1 to 10: a new object, words, titles. */
public final class WordsTest {
    private static final Due D = new Due();

    public static void main(String[] args) {
        newObject();
        words();
        wordOf();
        change();
        titles();
        knowing();
        ofSize();
        D.finish();
    }

    private static void newObject() {
        TitleMimes x = new TitleMimes();
        for (int what = 0; what <= 6; what++) {
            D.due("new: count(" + what + ")", x.count(what), what == 5 ? 1 : 0);
        }
        D.due("new: status(-1)", x.status(-1), 0);
        D.due("new: known(0)", x.known(0), 0);
        D.due("new: known(1)", x.known(1), 0);
        D.due("new: score(0)", x.score(0), 0);
        D.due("new: score(1)", x.score(1), 0);
        D.due("new: now(0)", x.now(0), Due.NONE);
        D.due("new: undo()", x.undo(), Due.NONE);
        D.due("new: tear()", x.tear(), 0);
        D.due("new: wipe()", x.wipe(), 0);
        for (int s = 0; s < 4; s++) {
            D.due("new: load(" + s + ")", x.load(s), Due.MISSING);
        }
        for (int spot = 0; spot < 10; spot++) {
            D.due("new: as(" + spot + ", 0)", x.as(spot, 0), Due.MISSING);
        }
        TitleMimes y = new TitleMimes();
        y.word(1, 0, 0);
        D.due("another object's word", x.count(0), 0);
    }

    private static void words() {
        TitleMimes x = new TitleMimes();
        D.due("word(0, 0, 0)", x.word(0, 0, 0), Due.BEYOND);
        D.due("word(7, 0, 0)", x.word(7, 0, 0), Due.BEYOND);
        D.due("word(1, -1, 0)", x.word(1, -1, 0), Due.BEYOND);
        D.due("word(1, 10, 0)", x.word(1, 10, 0), Due.BEYOND);
        D.due("word(1, 0, -1)", x.word(1, 0, -1), Due.BEYOND);
        D.due("word(1, 0, 10)", x.word(1, 0, 10), Due.BEYOND);
        D.due("none came", x.count(0), 0);
        D.due("word(1, 0, 9)", x.word(1, 0, 9), 0);
        D.due("word(6, 9, 0)", x.word(6, 9, 0), 1);
        for (int w = 2; w < 16; w++) {
            D.due("word " + w, x.word(2, 3, 4), w);
        }
        D.due("a 17th word", x.word(2, 3, 4), Due.FULL);
        D.due("a wrong 17th word", x.word(0, 3, 4), Due.BEYOND);
        D.due("count(0)", x.count(0), 16);
        D.due("count(3)", x.count(3), 1 + 6 + 14 * 2);
    }

    private static void wordOf() {
        TitleMimes x = new TitleMimes();
        x.word(4, 8, 3);
        x.word(1, 2, 5);
        x.title(0);
        x.more(0, 1);
        x.more(0, 0);
        x.title(0);
        D.due("wordOf(0, 0)", x.wordOf(0, 0), 4);
        D.due("wordOf(0, 1)", x.wordOf(0, 1), 8);
        D.due("wordOf(0, 2)", x.wordOf(0, 2), 3);
        D.due("wordOf(0, 3), twice in one title", x.wordOf(0, 3), 2);
        D.due("wordOf(1, 3)", x.wordOf(1, 3), 1);
        D.due("wordOf(-1, 0)", x.wordOf(-1, 0), Due.BEYOND);
        D.due("wordOf(2, 0)", x.wordOf(2, 0), Due.BEYOND);
        D.due("wordOf(0, 4)", x.wordOf(0, 4), Due.BEYOND);
        D.due("wordOf(0, -1)", x.wordOf(0, -1), Due.BEYOND);
    }

    private static void change() {
        TitleMimes x = new TitleMimes();
        x.word(4, 8, 3);
        D.due("change(0, 0, 6)", x.change(0, 0, 6), 4);
        D.due("change(0, 0, 1)", x.change(0, 0, 1), 6);
        D.due("change(0, 1, 0)", x.change(0, 1, 0), 8);
        D.due("change(0, 2, 9)", x.change(0, 2, 9), 3);
        D.due("change(0, 0, 0)", x.change(0, 0, 0), Due.BEYOND);
        D.due("change(0, 0, 7)", x.change(0, 0, 7), Due.BEYOND);
        D.due("change(0, 1, -1)", x.change(0, 1, -1), Due.BEYOND);
        D.due("change(0, 1, 10)", x.change(0, 1, 10), Due.BEYOND);
        D.due("change(0, 2, 10)", x.change(0, 2, 10), Due.BEYOND);
        D.due("change(0, 3, 1)", x.change(0, 3, 1), Due.BEYOND);
        D.due("change(0, -1, 1)", x.change(0, -1, 1), Due.BEYOND);
        D.due("change(1, 0, 1)", x.change(1, 0, 1), Due.BEYOND);
        D.due("changed syllables", x.wordOf(0, 0), 1);
        D.due("changed sound", x.wordOf(0, 1), 0);
        D.due("changed sense", x.wordOf(0, 2), 9);
    }

    private static void titles() {
        TitleMimes x = new TitleMimes();
        x.word(1, 1, 1);
        x.word(2, 2, 2);
        D.due("title(-1)", x.title(-1), Due.BEYOND);
        D.due("title(2)", x.title(2), Due.BEYOND);
        D.due("title(1)", x.title(1), 0);
        D.due("more(0, 0)", x.more(0, 0), 2);
        D.due("more(0, 0) again", x.more(0, 0), 3);
        D.due("more(0, 2)", x.more(0, 2), Due.BEYOND);
        D.due("more(1, 0)", x.more(1, 0), Due.BEYOND);
        D.due("more(-1, 0)", x.more(-1, 0), Due.BEYOND);
        D.due("ith(0, 3) of three", x.ith(0, 3), Due.NONE);
        D.due("more(0, 1)", x.more(0, 1), 4);
        D.due("more(0, 1), a fifth", x.more(0, 1), Due.FULL);
        D.due("more(0, 9), a wrong fifth", x.more(0, 9), Due.BEYOND);
        D.due("ith(0, 0)", x.ith(0, 0), 1);
        D.due("ith(0, 1)", x.ith(0, 1), 0);
        D.due("ith(0, 3)", x.ith(0, 3), 1);
        D.due("ith(0, 4)", x.ith(0, 4), Due.BEYOND);
        D.due("ith(0, -1)", x.ith(0, -1), Due.BEYOND);
        D.due("ith(1, 0)", x.ith(1, 0), Due.BEYOND);
        for (int t = 1; t < 24; t++) {
            D.due("title " + t, x.title(0), t);
        }
        D.due("a 25th title", x.title(0), Due.FULL);
        D.due("a wrong 25th title", x.title(2), Due.BEYOND);
        D.due("known(0), all 24", x.known(0), (1 << 24) - 1);
        D.due("more(23, 1)", x.more(23, 1), 2);
        D.due("ith(23, 1)", x.ith(23, 1), 1);
    }

    private static void knowing() {
        TitleMimes x = new TitleMimes();
        x.word(1, 1, 1);
        x.title(0);
        x.title(0);
        x.title(0);
        D.due("known(0) at first", x.known(0), 7);
        D.due("known(1) at first", x.known(1), 7);
        D.due("know(1, 0, false)", x.know(1, 0, false), 1);
        D.due("know(1, 0, false) again", x.know(1, 0, false), 0);
        D.due("know(2, 1, true)", x.know(2, 1, true), 1);
        D.due("know(0, 1, false)", x.know(0, 1, false), 1);
        D.due("known(0)", x.known(0), 5);
        D.due("known(1)", x.known(1), 6);
        D.due("know(1, 0, true)", x.know(1, 0, true), 0);
        D.due("known(0) then", x.known(0), 7);
        D.due("know(3, 0, true)", x.know(3, 0, true), Due.BEYOND);
        D.due("know(-1, 0, true)", x.know(-1, 0, true), Due.BEYOND);
        D.due("know(0, 2, true)", x.know(0, 2, true), Due.BEYOND);
        D.due("know(0, -1, true)", x.know(0, -1, true), Due.BEYOND);
        D.due("known(2)", x.known(2), Due.BEYOND);
        D.due("known(-1)", x.known(-1), Due.BEYOND);
    }

    private static void ofSize() {
        TitleMimes x = new TitleMimes();
        x.word(1, 1, 1);
        for (int t = 0; t < 5; t++) {
            x.title(0);
            for (int k = 0; k < t % 4; k++) {
                x.more(t, 0);
            }
        }
        D.due("ofSize(1)", x.ofSize(1), 1 | 16);
        D.due("ofSize(2)", x.ofSize(2), 2);
        D.due("ofSize(3)", x.ofSize(3), 4);
        D.due("ofSize(4)", x.ofSize(4), 8);
        D.due("ofSize(0)", x.ofSize(0), Due.BEYOND);
        D.due("ofSize(5)", x.ofSize(5), Due.BEYOND);
    }
}
