/** Promises 31 to 34: sounds like. */
public final class SoundsTest {
    private static final Due D = new Due();

    public static void main(String[] args) {
        TitleMimes x = new TitleMimes();
        x.word(3, 5, 1);
        x.word(6, 5, 2);
        x.word(1, 5, 1);
        x.word(5, 5, 1);
        x.word(3, 4, 2);
        x.word(2, 6, 1);
        x.word(2, 6, 7);
        x.word(1, 0, 0);
        x.word(6, 0, 0);
        like(x);
        sense(x);
        length(x);
        rare();
        D.finish();
    }

    private static void like(TitleMimes x) {
        D.due("like(0): 2 and 3 are as near", x.like(0), 2);
        D.due("like(1)", x.like(1), 3);
        D.due("like(2)", x.like(2), 0);
        D.due("like(4)", x.like(4), Due.NONE);
        D.due("like(5)", x.like(5), 6);
        D.due("like(6)", x.like(6), 5);
        D.due("like(7), five apart", x.like(7), 8);
        D.due("like(9)", x.like(9), Due.BEYOND);
        D.due("like(-1)", x.like(-1), Due.BEYOND);
    }

    private static void sense(TitleMimes x) {
        D.due("sense(0)", x.sense(0), 1 | 4 | 8 | 32);
        D.due("sense(4)", x.sense(4), 2 | 16);
        D.due("sense(6), itself alone", x.sense(6), 64);
        D.due("sense(9)", x.sense(9), Due.BEYOND);
        D.due("sense(-1)", x.sense(-1), Due.BEYOND);
    }

    private static void length(TitleMimes x) {
        x.title(1);
        D.due("length(0)", x.length(0), 6);
        x.more(0, 1);
        x.more(0, 2);
        D.due("length(0), a word again", x.length(0), 13);
        x.change(1, 0, 1);
        D.due("length(0), changed", x.length(0), 3);
        D.due("length(1)", x.length(1), Due.BEYOND);
        D.due("length(-1)", x.length(-1), Due.BEYOND);
    }

    private static void rare() {
        TitleMimes x = new TitleMimes();
        for (int w = 0; w < 4; w++) {
            x.word(1, w, 0);
        }
        x.title(0);
        x.more(0, 0);
        x.more(0, 1);
        x.more(0, 2);
        D.due("rare(0): all in one title", x.rare(0), 0);
        x.title(0);
        D.due("rare(0)", x.rare(0), 2);
        x.title(1);
        D.due("rare(0)", x.rare(0), 3);
        D.due("rare(1)", x.rare(1), 0);
        D.due("rare(3)", x.rare(3), Due.BEYOND);
        TitleMimes y = new TitleMimes();
        y.word(1, 0, 0);
        y.word(1, 0, 0);
        for (int t = 0; t < 24; t++) {
            y.title(0);
            if (t > 0) {
                y.more(t, 1);
            }
        }
        D.due("rare(23): of 24 and 23", y.rare(23), 1);
        D.due("rare(0): of 24 alone", y.rare(0), 0);
        D.due("rare(-1)", x.rare(-1), Due.BEYOND);
    }
}
