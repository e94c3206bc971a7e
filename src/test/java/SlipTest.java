/** Promises 16 to 21: a slip. */
public final class SlipTest {
    private static final Due D = new Due();

    public static void main(String[] args) {
        begins();
        shows();
        shouts();
        ends();
        findings();
        D.finish();
    }

    /** Titles 0 to 4 of words 0, 1, 0 1, 1 0, 0 0; band 1 doesn't know title 4. */
    private static TitleMimes five() {
        TitleMimes x = new TitleMimes();
        x.word(1, 2, 3);
        x.word(2, 2, 4);
        x.title(0);
        x.title(1);
        x.title(0);
        x.more(2, 1);
        x.title(1);
        x.more(3, 0);
        x.title(0);
        x.more(4, 0);
        x.know(4, 1, false);
        return x;
    }

    private static void now(TitleMimes x, String when, int... facts) {
        for (int what = 0; what < 6; what++) {
            D.due(when + ": now(" + what + ")", x.now(what), facts[what]);
        }
    }

    private static void begins() {
        TitleMimes x = five();
        D.due("slip(2, 0)", x.slip(2, 0), 5);
        now(x, "slip(2, 0)", 2, 0, 0, 0, 31, 0);
        D.due("slip(3, 1)", x.slip(3, 1), 4);
        now(x, "slip(3, 1)", 3, 1, 0, 0, 15, 0);
        D.due("slip(4, 1)", x.slip(4, 1), Due.STATE);
        now(x, "the slip stays", 3, 1, 0, 0, 15, 0);
        x.know(0, 1, false);
        x.title(0);
        D.due("fitting stays as it began", x.now(4), 15);
        x.show(0, 0);
        x.slip(1, 1);
        now(x, "a new slip has nothing shown", 1, 1, 0, 0, 46, 0);
        D.due("show(0, 0), title 5 of one word", x.show(0, 0), 2);
    }

    private static void shows() {
        TitleMimes x = five();
        x.slip(2, 0);
        D.due("show(0, 3)", x.show(0, 3), 3);
        now(x, "show(0, 3)", 2, 0, 3, 1, 28, 0);
        D.due("show(1, 0)", x.show(1, 0), 2);
        now(x, "show(1, 0)", 2, 0, 8, 2, 20, 0);
        D.due("show(2, 1) tells nothing", x.show(2, 1), 2);
        x.change(1, 0, 1);
        D.due("show(1, 1) of what is so then", x.show(1, 1), 2);
        D.due("show(6, 1)", x.show(6, 1), 1);
        now(x, "had", 2, 0, 42, 5, 4, 1);
        D.due("show(3, 0)", x.show(3, 0), 1);
        D.due("show(2, 0): 62", x.show(2, 0), Due.STATE);
        now(x, "a sign too late", 2, 0, 54, 6, 4, 1);
        D.due("show(4, 0)", x.show(4, 0), 1);
        D.due("show(0, 0): 61", x.show(0, 0), Due.STATE);
        D.due("show(5, 0): 60", x.show(5, 0), 1);
        D.due("now(2) at its end", x.now(2), 60);
        D.due("end() at 60 seconds", x.end(), 0);
    }

    private static void shouts() {
        TitleMimes x = five();
        x.slip(2, 1);
        D.due("shout(1), wrong", x.shout(1), 3);
        D.due("now(4) without it", x.now(4), 13);
        D.due("shout(1) again", x.shout(1), Due.STATE);
        D.due("shout(4), not known", x.shout(4), Due.STATE);
        D.due("shout(5)", x.shout(5), Due.BEYOND);
        D.due("shout(-1)", x.shout(-1), Due.BEYOND);
        D.due("shout(2), right", x.shout(2), 1);
        now(x, "shout(2)", 2, 1, 0, 0, 4, 1);
        D.due("shout(2) again", x.shout(2), 1);
        D.due("shout(0), ruled out", x.shout(0), Due.STATE);
        D.due("end() of a shout", x.end(), 60);
    }

    private static void ends() {
        TitleMimes x = five();
        x.slip(0, 0);
        x.show(6, 0);
        D.due("end(), not had", x.end(), 0);
        D.due("score(0), not had", x.score(0), 0);
        D.due("end() again", x.end(), Due.NONE);
        x.slip(0, 1);
        x.show(0, 0);
        x.show(6, 0);
        D.due("end(), had", x.end(), 37);
        D.due("score(1)", x.score(1), 37);
        D.due("score(0)", x.score(0), 0);
        x.slip(1, 1);
        x.shout(1);
        D.due("end(), a second", x.end(), 60);
        D.due("score(1), both", x.score(1), 97);
        D.due("now(0) after it", x.now(0), Due.NONE);
        D.due("count(2)", x.count(2), 97);
        D.due("score(2)", x.score(2), Due.BEYOND);
        D.due("score(-1)", x.score(-1), Due.BEYOND);
    }

    private static void findings() {
        TitleMimes x = five();
        D.due("slip(5, 0)", x.slip(5, 0), Due.BEYOND);
        D.due("slip(-1, 0)", x.slip(-1, 0), Due.BEYOND);
        D.due("slip(0, 2)", x.slip(0, 2), Due.BEYOND);
        D.due("slip(0, -1)", x.slip(0, -1), Due.BEYOND);
        D.due("show(7, 0)", x.show(7, 0), Due.BEYOND);
        D.due("show(0, 4)", x.show(0, 4), Due.BEYOND);
        D.due("show(-1, 0)", x.show(-1, 0), Due.BEYOND);
        D.due("show(0, -1)", x.show(0, -1), Due.BEYOND);
        D.due("show(0, 0)", x.show(0, 0), Due.NONE);
        D.due("now(6)", x.now(6), Due.BEYOND);
        D.due("now(-1)", x.now(-1), Due.BEYOND);
        D.due("now(5)", x.now(5), Due.NONE);
        D.due("shout(0)", x.shout(0), Due.NONE);
        D.due("shout(5)", x.shout(5), Due.BEYOND);
        D.due("end()", x.end(), Due.NONE);
    }
}
