/** Promises 11 to 15: signs. */
public final class SignsTest {
    private static final Due D = new Due();

    public static void main(String[] args) {
        tells();
        takes();
        parts();
        D.finish();
    }

    /** Titles: 0 of words 0 1, 1 of word 2, 2 of words 2 1 0 1. */
    private static TitleMimes three() {
        TitleMimes x = new TitleMimes();
        x.word(1, 9, 4);
        x.word(6, 1, 9);
        x.word(3, 7, 0);
        x.title(0);
        x.more(0, 1);
        x.title(2);
        x.title(2);
        x.more(2, 1);
        x.more(2, 0);
        x.more(2, 1);
        return x;
    }

    private static void tells() {
        TitleMimes x = three();
        // Rows: kinds; columns: place 0 of title 0, place 1 of title 0, place 1 of title 1.
        int[][] told = {{2, 2, 1}, {1, 6, 0}, {10, 2, 0}, {41, 96, 0}, {3, 0, 0}, {1, 0, 0}, {1, 2, 0}};
        for (int kind = 0; kind < 7; kind++) {
            D.due("tells(" + kind + ", 0, 0)", x.tells(kind, 0, 0), told[kind][0]);
            D.due("tells(" + kind + ", 1, 0)", x.tells(kind, 1, 0), told[kind][1]);
            D.due("tells(" + kind + ", 1, 1)", x.tells(kind, 1, 1), told[kind][2]);
        }
        D.due("tells(0, 3, 2)", x.tells(0, 3, 2), 4);
        D.due("tells(6, 3, 2)", x.tells(6, 3, 2), 2);
        D.due("tells(3, 2, 2)", x.tells(3, 2, 2), 41);
        D.due("tells(5, 2, 2)", x.tells(5, 2, 2), 1);
        D.due("tells(-1, 0, 0)", x.tells(-1, 0, 0), Due.BEYOND);
        D.due("tells(7, 0, 0)", x.tells(7, 0, 0), Due.BEYOND);
        D.due("tells(0, -1, 0)", x.tells(0, -1, 0), Due.BEYOND);
        D.due("tells(0, 4, 0)", x.tells(0, 4, 0), Due.BEYOND);
        D.due("tells(0, 0, 3)", x.tells(0, 0, 3), Due.BEYOND);
        D.due("tells(0, 0, -1)", x.tells(0, 0, -1), Due.BEYOND);
        x.change(0, 0, 2);
        D.due("tells(5, 0, 0), changed", x.tells(5, 0, 0), 0);
        D.due("tells(3, 0, 0), changed", x.tells(3, 0, 0), 42);
    }

    private static void takes() {
        TitleMimes x = new TitleMimes();
        int[] takes = {3, 5, 8, 12, 4, 2, 20};
        for (int kind = 0; kind < 7; kind++) {
            for (int i = 0; i < 4; i++) {
                int want = kind == 6 ? 20 + i : takes[kind];
                D.due("takes(" + kind + ", " + i + ")", x.takes(kind, i), want);
            }
        }
        D.due("takes(7, 0)", x.takes(7, 0), Due.BEYOND);
        D.due("takes(-1, 0)", x.takes(-1, 0), Due.BEYOND);
        D.due("takes(0, 4)", x.takes(0, 4), Due.BEYOND);
        D.due("takes(0, -1)", x.takes(0, -1), Due.BEYOND);
    }

    private static void parts() {
        TitleMimes x = three();
        x.title(2);
        x.title(1);
        // Of place 0 of the titles 0 to 4 the words are 0, 2, 2, 2, 1.
        D.due("parts(6, 0, 31)", x.parts(6, 0, 31), 3);
        D.due("worst(6, 0, 31)", x.worst(6, 0, 31), 3);
        D.due("sum(6, 0, 31)", x.sum(6, 0, 31), 1 + 9 + 1);
        D.due("parts(6, 0, 10)", x.parts(6, 0, 10), 1);
        D.due("worst(6, 0, 19)", x.worst(6, 0, 19), 1);
        D.due("sum(6, 0, 14)", x.sum(6, 0, 14), 9);
        D.due("parts(0, 2, 31)", x.parts(0, 2, 31), 3);
        D.due("parts(6, 3, 31)", x.parts(6, 3, 31), 2);
        D.due("parts(0, 0, 0)", x.parts(0, 0, 0), 0);
        D.due("worst(0, 0, 0)", x.worst(0, 0, 0), 0);
        D.due("sum(0, 0, 0)", x.sum(0, 0, 0), 0);
        int[][] wrong = {{7, 0, 1}, {-1, 0, 1}, {0, 4, 1}, {0, -1, 1}, {0, 0, 32}, {0, 0, -1}, {0, 0, 33}};
        for (int[] w : wrong) {
            String call = "(" + w[0] + ", " + w[1] + ", " + w[2] + ")";
            D.due("parts" + call, x.parts(w[0], w[1], w[2]), Due.BEYOND);
            D.due("worst" + call, x.worst(w[0], w[1], w[2]), Due.BEYOND);
            D.due("sum" + call, x.sum(w[0], w[1], w[2]), Due.BEYOND);
        }
    }
}
