/** Promises 43 to 45: texts. */
final class TextEdges {
    private final Edges e;

    private TextEdges(Edges e) {
        this.e = e;
    }

    static void run(Edges e) {
        TextEdges t = new TextEdges(e);
        t.feed();
        t.wipe();
        t.text();
        t.faults();
    }

    /** A text of 15 bytes and blanks behind it, so many bytes in all. */
    private static TitleMimes filled(int bytes) {
        TitleMimes x = new TitleMimes();
        Due.feed(x, "word 1; title 0");
        while (x.count(4) < bytes) {
            x.feed(' ', 1);
        }
        return x;
    }

    private void feed() {
        e.under(43, "THE TAPE gets the n lowest bytes of a number behind it, the highest of these first (n 1 to 4): how many it has.");
        TitleMimes x = new TitleMimes();
        e.due("feed of 4", x.feed(0x776f7264, 4), 4);
        e.due("feed of 1, with more above", x.feed(0x3b3b3b35, 1), 5);
        e.due("feed of 2, with more above", x.feed(0x3b3b7365, 2), 7);
        e.due("feed of 3, with more above", x.feed(0xff6e7365, 3), 10);
        e.due("feed of 1", x.feed(0x37, 1), 11);
        e.due("text(): word5sense7", x.text(), 1);
        e.due("its SYLLABLES", x.wordOf(0, 0), 5);
        e.due("its SENSE", x.wordOf(0, 2), 7);
        e.due("text() of a negative number", highBytes(), -1 - 1);
        e.due("119 and 1", filled(119).feed(0, 1), 120);
        e.due("118 and 2", filled(118).feed(0, 2), 120);
        e.due("117 and 3", filled(117).feed(0, 3), 120);
        e.due("116 and 4", filled(116).feed(0, 4), 120);
        e.under(43, "BEYOND: n.");
        e.outside(Rig::rich, 1, Edges.off(1, 4), "feed", 0x3b3b3b3b, 1);
        e.outside(Rig::empty, 1, Edges.off(1, 4), "feed", 0x776f7264, 1);
        e.outside(Rig::full, 1, Edges.off(1, 4), "feed", 0, 1);
        e.under(43, "FULL.");
        for (int n = 1; n <= 4; n++) {
            int bytes = 121 - n;
            e.refuses(() -> filled(bytes), Due.FULL, "feed", 0x3b3b3b3b, n);
            e.refuses(() -> filled(120), Due.FULL, "feed", 0x3b3b3b3b, n);
            e.refuses(Rig::full, Due.FULL, "feed", 0x776f7264, n);
        }
        x = filled(120);
        x.wipe();
        e.due("room again after wipe()", x.feed(0, 4), 4);
    }

    private static int highBytes() {
        TitleMimes x = new TitleMimes();
        x.feed(0x20ffffff, 4);
        return x.text();
    }

    private void wipe() {
        e.under(44, "THE TAPE is empty: how many it had.");
        e.asks(Rig::empty, 0, "wipe");
        TitleMimes x = Rig.full();
        e.due("wipe()", x.wipe(), 120);
        e.due("count(4)", x.count(4), 0);
        e.due("wipe() again", x.wipe(), 0);
        e.due("nothing is left of it", x.text(), -1);
        x = Rig.rich();
        e.due("wipe() of 16", x.wipe(), 16);
        e.due("no WORD came", x.count(0), 4);
    }

    private void text() {
        e.under(45, "THE TAPE is a TEXT, and empty then; all that it tells is so, item by item: how many ITEMS.");
        TitleMimes x = Rig.rich();
        e.due("text()", x.text(), 2);
        e.due("count(0)", x.count(0), 5);
        e.due("count(1)", x.count(1), 8);
        e.due("ith(7, 0)", x.ith(7, 0), 4);
        e.due("ith(7, 1)", x.ith(7, 1), 0);
        e.due("it is empty then", x.count(4), 0);
        e.due("and no TEXT", x.text(), -1);
        e.reads(x, "word 1 sound 3;title 5;only 8 1", 3);
        e.due("known(0)", x.known(0), 0b11111101);
        e.due("known(1)", x.known(1), 0b111101111);
        e.due("the slip stays", x.now(4), 68);
        e.due("the score stays", x.score(0), 60);
        e.due("z stays", x.count(5), -5);
        e.due("the spots stay", x.count(6), 3);
        x = new TitleMimes();
        e.reads(x, "word 1", 1);
        e.reads(x, "title 0;".repeat(14) + "title 00", 15);
        e.due("15 titles by 120 bytes", x.count(1), 15);
        e.reads(x, "only 0 0;only 0 1;only 14 0;only 14 0", 4);
        e.due("the later item is so", x.known(0), (1 << 15) - 2);
        e.due("and known(1)", x.known(1), (1 << 14) - 1);
    }

    private void faults() {
        e.under(45, "With a FAULT: -1 less the FAULT (nothing changes but that THE TAPE is empty; no finding).");
        e.faults(Rig::empty, "", 0);
        e.faults(Rig::rich, "", 0);
        e.faults(Rig::rich, "word 2;title 0;only 0 1;word 7", 29);
        e.faults(Rig::rich, "word 2 sound 9 sense 9;title 1 2 3 4;only 7 0;title 0;", 54);
        e.faults(Rig::rich, "only 0 0;only 1 1;only 2 0;only 3 1;only 4 2", 43);
        e.faults(Rig::full, "only 23 0;title 0", 10);
        e.faults(Rig::full, "only 0 1;word 1", 9);
        e.faults(Rig::rich, " ".repeat(120), 120);
        e.faults(Rig::rich, " ".repeat(119) + "x", 119);
    }
}
