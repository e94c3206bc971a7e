/** Promises 53 to 57: images, count, status. */
public final class ImagesTest {
    private static final Due D = new Due();

    public static void main(String[] args) {
        images();
        keptAndNot();
        counts();
        statuses();
        D.finish();
    }

    private static void images() {
        TitleMimes x = new TitleMimes();
        x.word(3, 4, 5);
        D.due("undo(), nothing kept", x.undo(), Due.NONE);
        D.due("tear(), nothing kept", x.tear(), 0);
        D.due("image()", x.image(), 1);
        x.title(0);
        x.title(0);
        D.due("undo()", x.undo(), 0);
        D.due("count(1)", x.count(1), 0);
        x.title(0);
        D.due("undo() again", x.undo(), 0);
        x.title(0);
        D.due("image() anew", x.image(), 1);
        x.title(0);
        D.due("undo() to the latest", x.undo(), 1);
        D.due("tear()", x.tear(), 1);
        D.due("tear() again", x.tear(), 0);
        x.title(0);
        D.due("undo(), torn", x.undo(), Due.NONE);
        D.due("count(1), torn", x.count(1), 2);
    }

    private static void keptAndNot() {
        TitleMimes x = new TitleMimes();
        x.word(1, 2, 3);
        x.word(2, 2, 3);
        x.title(0);
        x.title(1);
        x.know(1, 1, false);
        x.hold(2, 9);
        x.seed(42);
        x.slip(1, 0);
        x.show(5, 0);
        x.sheet(0, 8, 3);
        x.feed(0, 3);
        x.slip(0, 1);
        x.end();
        x.slip(0, 0);
        x.show(5, 1);
        x.shout(1);
        x.image();
        x.change(0, 0, 6);
        x.change(0, 1, 7);
        x.change(0, 2, 8);
        x.word(1, 1, 1);
        x.more(0, 1);
        x.know(0, 0, false);
        x.know(1, 1, true);
        x.hold(2, -1);
        x.hold(3, 1);
        x.end();
        x.slip(1, 1);
        x.evening(1, 2);
        x.feed(0, 2);
        x.sheet(0, 16, 2);
        x.sheet(1, 32, 1);
        x.known(9);
        D.due("undo()", x.undo(), 2);
        int[] word = {1, 2, 3, 1};
        for (int what = 0; what < 4; what++) {
            D.due("wordOf(0, " + what + ")", x.wordOf(0, what), word[what]);
        }
        D.due("count(0)", x.count(0), 2);
        D.due("ofSize(1)", x.ofSize(1), 3);
        D.due("known(0)", x.known(0), 3);
        D.due("known(1)", x.known(1), 1);
        D.due("as(2, 2)", x.as(2, 2), 1);
        D.due("count(6)", x.count(6), 1);
        D.due("score(0)", x.score(0), 0);
        D.due("score(1)", x.score(1), 60);
        D.due("count(5)", x.count(5), 42);
        int[] now = {0, 0, 2, 1, 1, 1};
        for (int what = 0; what < 6; what++) {
            D.due("now(" + what + ")", x.now(what), now[what]);
        }
        D.due("the tape stays", x.count(4), 5);
        D.due("sheet 0 stays of 16 bits", x.copy(0, 0, 0, 0, 2), 2);
        D.due("sheet 1 stays of 32 bits", x.copy(1, 0, 0, 0, 0), Due.KIND);
        D.due("status(-1), known(9) and the copy", x.status(-1), 2);
        x.end();
        x.image();
        x.slip(1, 0);
        x.undo();
        D.due("no slip, kept as none", x.now(0), Due.NONE);
    }

    private static void counts() {
        TitleMimes x = new TitleMimes();
        x.word(6, 0, 0);
        x.word(5, 0, 0);
        x.title(1);
        x.slip(0, 0);
        x.end();
        x.slip(0, 1);
        x.show(5, 0);
        x.end();
        x.feed(0, 3);
        x.seed(-1000003);
        x.hold(0, 0);
        x.hold(9, 27);
        x.hold(5, 3);
        int[] want = {2, 1, 118, 11, 3, -1000003, 3};
        for (int what = 0; what < 7; what++) {
            D.due("count(" + what + ")", x.count(what), want[what]);
        }
        D.due("z is no finding", x.status(-1), 0);
        D.due("count(7)", x.count(7), Due.BEYOND);
        D.due("count(-1)", x.count(-1), Due.BEYOND);
    }

    private static void statuses() {
        TitleMimes x = new TitleMimes();
        x.image();
        D.due("status(7)", x.status(7), Due.BEYOND);
        D.due("status(-2)", x.status(-2), Due.BEYOND);
        x.word(0, 0, 0);
        for (int k = 0; k < 18; k++) {
            x.word(1, 0, 0);
        }
        x.hold(0, 0);
        x.as(0, 6);
        x.end();
        x.now(0);
        x.title(0);
        x.know(0, 0, false);
        x.slip(0, 0);
        x.load(0);
        x.sheet(0, 8, -1);
        x.text();
        for (int k = 0; k < 31; k++) {
            x.feed(0, 4);
        }
        x.undo();
        int[] want = {3, 3, 1, 2, 1, 1, 1};
        for (int which = 0; which < 7; which++) {
            D.due("status(" + which + ")", x.status(which), want[which]);
        }
        D.due("status(-1)", x.status(-1), 12);
        x.status(8);
        D.due("status(0), one more", x.status(0), 4);
        D.due("status(-1), one more", x.status(-1), 13);
    }
}
