/** Promises 53 to 57: images, count, status. */
final class ImageEdges {
    private final Edges e;

    private ImageEdges(Edges e) {
        this.e = e;
    }

    static void run(Edges e) {
        ImageEdges i = new ImageEdges(e);
        i.image();
        i.undo();
        i.tear();
        i.count();
        i.status();
    }

    /** Changes all that an image keeps. */
    private static void upset(TitleMimes x) {
        x.change(0, 0, 5);
        x.change(1, 1, 9);
        x.change(2, 2, 9);
        x.word(6, 6, 6);
        x.more(0, 4);
        x.title(4);
        x.know(0, 0, false);
        x.know(1, 0, true);
        x.know(4, 1, true);
        x.know(3, 1, false);
        x.hold(0, 5);
        x.hold(2, -1);
        x.hold(7, 8);
        x.shout(2);
        x.end();
        x.evening(0, 3);
        x.slip(1, 0);
        x.show(6, 0);
        x.show(5, 1);
    }

    /** Changes all that an image doesn't keep. */
    private static void upsetRest(TitleMimes x) {
        x.wipe();
        Due.feed(x, "word 3;title 0");
        x.sheet(0, 16, 2);
        x.write(0, 1, 3);
        x.sheet(1, 0, 0);
        x.write(2, 0, 9);
        x.sheet(3, 8, 1);
    }

    private void image() {
        e.under(53, "All but THE TAPE and SHEETS is kept: 1.");
        TitleMimes x = Rig.rich();
        e.due("image()", x.image(), 1);
        e.due("image() again", x.image(), 1);
        upset(x);
        upsetRest(x);
        e.due("undo()", x.undo(), 7);
        TitleMimes twin = Rig.rich();
        twin.image();
        upsetRest(twin);
        e.same("undo() after all was changed", x, twin);
        x = Rig.idle();
        x.image();
        x.slip(0, 0);
        x.undo();
        e.due("no slip is kept, too", x.now(0), Due.NONE);
        e.due("an image of nothing", new TitleMimes().image(), 1);
        e.due("the image changes nothing", Rig.rich().image(), 1);
        x = Rig.rich();
        x.image();
        twin = Rig.rich();
        for (int k = 0; k < 2; k++) {
            e.due("known(" + k + ") as before", x.known(k), twin.known(k));
            e.due("score(" + k + ") as before", x.score(k), twin.score(k));
        }
        e.due("now(4) as before", x.now(4), twin.now(4));
    }

    private void undo() {
        e.under(54, "It becomes what was kept latest (which stays): how many TITLES.");
        TitleMimes x = Rig.rich();
        e.due("undo()", x.undo(), 6);
        e.due("count(1)", x.count(1), 6);
        e.due("the slip that was then", x.now(4), 15);
        upset(x);
        e.due("undo() again", x.undo(), 6);
        TitleMimes twin = Rig.rich();
        twin.undo();
        e.same("undo() twice", x, twin);
        x = Rig.rich();
        x.image();
        x.title(0);
        e.due("the latest, not the older one", x.undo(), 7);
        x = new TitleMimes();
        x.image();
        x.word(1, 1, 1);
        x.title(0);
        e.due("undo() to nothing", x.undo(), 0);
        e.due("no WORDS", x.count(0), 0);
        x = Rig.full();
        x.image();
        x.know(0, 0, false);
        e.due("undo() to 24", x.undo(), 24);
        e.due("known(0)", x.known(0), (1 << 24) - 1);
        x.undo();
        x.change(0, 0, 6);
        e.due("what is changed behind undo() isn't kept", x.undo(), 24);
        e.due("wordOf(0, 0)", x.wordOf(0, 0), 1);
        e.under(54, "NONE: nothing is kept.");
        e.refuses(Rig::empty, Due.NONE, "undo");
        e.refuses(ImageEdges::torn, Due.NONE, "undo");
    }

    private static TitleMimes torn() {
        TitleMimes x = Rig.rich();
        x.tear();
        return x;
    }

    private void tear() {
        e.under(55, "Nothing is kept: 1 if something was, else 0.");
        TitleMimes x = Rig.rich();
        x.image();
        e.due("two images", x.tear(), 1);
        e.due("tear() again", x.tear(), 0);
        e.due("nothing is kept", x.undo(), Due.NONE);
        e.asks(Rig::empty, 0, "tear");
        e.asks(ImageEdges::torn, 0, "tear");
        x.image();
        e.due("undo() tears nothing", x.undo(), 7);
        e.due("tear() after undo()", x.tear(), 1);
        e.due("titles stay", x.count(1), 7);
        e.due("no finding by tear()", x.status(-1), 1);
    }

    private void count() {
        e.under(56, "0 WORDS, 1 TITLES, 2 SCORES of both together, 3 SYLLABLES of all WORDS, 4 bytes of THE TAPE, 5 z, 6 SPOTS that hold something.");
        int[] rich = {4, 7, 60, 8, 16, -5, 3};
        int[] none = {0, 0, 0, 0, 0, 1, 0};
        int[] full = {16, 24, 0, 52, 120, 1, 0};
        for (int what = 0; what < 7; what++) {
            e.asks(Rig::empty, none[what], "count", what);
            e.asks(Rig::rich, rich[what], "count", what);
            e.asks(Rig::full, full[what], "count", what);
        }
        TitleMimes x = Rig.idle();
        x.slip(1, 1);
        x.shout(1);
        x.end();
        e.due("60 of each band", x.count(2), 120);
        for (int spot = 0; spot < 10; spot++) {
            x.hold(spot, 0);
        }
        e.due("all SPOTS", x.count(6), 10);
        x.seed(Due.BEYOND);
        e.due("z as a finding would be", x.count(5), Due.BEYOND);
        e.due("is no finding", x.status(-1), 0);
        e.under(56, "BEYOND: another what.");
        e.outside(Rig::rich, 0, Edges.off(0, 6), "count", 0);
        e.outside(Rig::empty, 0, Edges.off(0, 6), "count", 0);
    }

    /** BEYOND once, FULL twice, KIND 3 times and so on: SIZE 7 times. */
    private static TitleMimes found() {
        TitleMimes x = Rig.full();
        x.hold(0, 0);
        x.known(2);
        times(2, () -> x.title(0));
        times(3, () -> x.as(0, 6));
        times(4, () -> x.end());
        times(5, () -> stateless(x));
        times(6, () -> x.load(0));
        times(7, () -> x.sheet(0, 8, -1));
        return x;
    }

    private static void times(int n, Runnable act) {
        for (int k = 0; k < n; k++) {
            act.run();
        }
    }

    /** Answers STATE and leaves all as it was. */
    private static void stateless(TitleMimes x) {
        x.know(0, 0, false);
        x.points(0, 0);
        x.know(0, 0, true);
    }

    private void status() {
        e.under(57, "How many acts answered a finding ever (undo() takes none back): which -1: all, 0 to 6: BEYOND to SIZE.");
        e.asks(ImageEdges::found, 28, "status", -1);
        for (int which = 0; which < 7; which++) {
            e.asks(ImageEdges::found, which + 1, "status", which);
            e.asks(Rig::empty, 0, "status", which);
        }
        e.asks(Rig::empty, 0, "status", -1);
        TitleMimes x = found();
        e.due("undo()", x.undo(), 0);
        x.image();
        x.tear();
        x.wipe();
        x.text();
        for (int which = 0; which < 7; which++) {
            e.due("undo(), image(), tear(), text() take none back: status(" + which + ")", x.status(which), which + 1);
        }
        e.under(57, "BEYOND (counted from then on): another one.");
        e.outside(Rig::rich, 0, Edges.off(-1, 6), "status", 0);
        x = new TitleMimes();
        for (int k = 1; k <= 3; k++) {
            e.due("status(7)", x.status(7), Due.BEYOND);
            e.due("status(0) from then on", x.status(0), k);
            e.due("status(-1) from then on", x.status(-1), k);
        }
    }
}
