/** Promises 46 to 52: spots, sheets. */
final class SheetEdges {
    private static final int[] OTHER_BITS = {1, 4, 7, 9, 15, 17, 24, 31, 33, 64, -1, -8, 256 + 8, Edges.LEAST, Edges.MOST};
    private static final int[] BITS = {8, 16, 32};
    private final Edges e;

    private SheetEdges(Edges e) {
        this.e = e;
    }

    static void run(Edges e) {
        SheetEdges s = new SheetEdges(e);
        s.hold();
        s.as();
        s.sheet();
        s.write();
        s.copy();
        s.load();
        s.judge();
    }

    /** A word and a sheet of these numbers of 32 bits; further sheets are missing. */
    private static TitleMimes row(String words, int... numbers) {
        TitleMimes x = Rig.game(words, "");
        x.sheet(0, 32, numbers.length);
        for (int i = 0; i < numbers.length; i++) {
            x.write(0, i, numbers[i]);
        }
        return x;
    }

    private void senses(TitleMimes x, String what, int... senses) {
        for (int w = 0; w < senses.length; w++) {
            e.due(what + ": SENSE of " + w, x.wordOf(w, 2), senses[w]);
        }
    }

    private void hold() {
        e.under(46, "A SPOT holds a SIGN (number 0 to 27), or nothing (-1): 1.");
        TitleMimes x = new TitleMimes();
        for (int spot = 0; spot < 10; spot++) {
            e.due("hold(" + spot + ", 27)", x.hold(spot, 27), 1);
            e.due("count(6)", x.count(6), spot + 1);
            e.due("as(" + spot + ", 6)", x.as(spot, 6), 3);
        }
        for (int spot = 0; spot < 10; spot++) {
            e.due("hold(" + spot + ", 0) in its place", x.hold(spot, 0), 1);
            e.due("count(6) as before", x.count(6), 10);
            e.due("as(" + spot + ", 0)", x.as(spot, 0), 0);
        }
        for (int spot = 0; spot < 10; spot++) {
            e.due("hold(" + spot + ", -1)", x.hold(spot, -1), 1);
            e.due("hold(" + spot + ", -1) again", x.hold(spot, -1), 1);
            e.due("count(6), one less", x.count(6), 9 - spot);
        }
        e.under(46, "BEYOND.");
        e.outside(Rig::rich, 0, Edges.off(0, 9), "hold", 0, 5);
        e.outside(Rig::rich, 1, Edges.off(-1, 27), "hold", 2, 5);
        e.outside(Rig::empty, 0, Edges.off(0, 9), "hold", 0, -1);
    }

    private void as() {
        // Rows: the kind held; columns: the kind asked; 1 where it is that or under it.
        int[][] isOf = {
            {1, 0, 0, 0, 0, 0, 0}, {1, 1, 0, 0, 0, 0, 0}, {1, 0, 1, 0, 0, 0, 0}, {1, 1, 0, 1, 0, 0, 0},
            {1, 0, 1, 0, 1, 0, 0}, {1, 0, 0, 0, 0, 1, 0}, {1, 0, 0, 0, 0, 1, 1}};
        for (int sign = 0; sign < 28; sign++) {
            int held = sign;
            for (int kind = 0; kind < 7; kind++) {
                if (isOf[sign / 4][kind] == 1) {
                    e.under(47, "What a SPOT holds as one of a kind (0 to 6): the place i of the SIGN.");
                    e.asks(() -> holding(held), sign % 4, "as", 9, kind);
                } else {
                    e.under(47, "KIND: it isn't of that kind, nor of one under it.");
                    e.refuses(() -> holding(held), Due.KIND, "as", 9, kind);
                }
            }
        }
        e.under(47, "BEYOND.");
        e.outside(Rig::rich, 0, Edges.off(0, 9), "as", 2, 0);
        e.outside(Rig::rich, 1, Edges.off(0, 6), "as", 2, 0);
        e.outside(Rig::empty, 1, Edges.off(0, 6), "as", 2, 0);
        e.under(47, "MISSING: it holds nothing.");
        for (int kind = 0; kind < 7; kind++) {
            e.refuses(Rig::empty, Due.MISSING, "as", 0, kind);
            e.refuses(Rig::rich, Due.MISSING, "as", 9, kind);
            e.refuses(() -> holding(-1), Due.MISSING, "as", 9, kind);
        }
    }

    private static TitleMimes holding(int sign) {
        TitleMimes x = new TitleMimes();
        x.hold(9, 12);
        x.hold(9, sign);
        return x;
    }

    private void sheet() {
        e.under(48, "A sheet has n numbers, all 0, of 8, 16 or 32 bits; bits 0: it is MISSING: n (0 if it is MISSING).");
        for (int bits : BITS) {
            for (int s = 0; s < 4; s++) {
                TitleMimes x = Rig.game("159 159", "");
                e.due("sheet(" + s + ", " + bits + ", 0)", x.sheet(s, bits, 0), 0);
                e.due("no number", x.write(s, 0, 0), Due.BEYOND);
                e.due("sheet(" + s + ", " + bits + ", 40)", x.sheet(s, bits, 40), 40);
                e.due("the last number", x.write(s, 39, 1), 1);
                e.due("no further number", x.write(s, 40, 1), Due.BEYOND);
                for (int i = 0; i < 40; i++) {
                    x.write(s, i, 1);
                }
                e.due("sheet(" + s + ", " + bits + ", 2)", x.sheet(s, bits, 2), 2);
                e.due("load(" + s + ")", x.load(s), 2);
                senses(x, "numbers anew are 0", 0, 0);
                x.sheet(s, bits, 40);
                x.copy(s, 38, s, 0, 2);
                e.due("the last two", x.load(s), 2);
                senses(x, "further ones are 0, too", 0, 0);
                e.due("sheet(" + s + ", 0, 40)", x.sheet(s, 0, 40), 0);
                e.due("it is MISSING", x.load(s), Due.MISSING);
                e.due("sheet(" + s + ", 0, 0)", x.sheet(s, 0, 0), 0);
                e.due("it is MISSING still", x.judge(s), Due.MISSING);
            }
        }
        e.under(48, "BEYOND: no such sheet, other bits.");
        e.outside(Rig::rich, 0, Edges.off(0, 3), "sheet", 0, 8, 2);
        e.outside(Rig::rich, 0, Edges.off(0, 3), "sheet", 0, 0, 0);
        e.outside(Rig::rich, 1, OTHER_BITS, "sheet", 0, 8, 2);
        e.outside(Rig::rich, 1, OTHER_BITS, "sheet", 3, 8, 2);
        e.under(48, "SIZE: n is below 0 (also with bits 0).");
        for (int bits : new int[] {0, 8, 16, 32}) {
            for (int n : new int[] {-1, -40, Edges.LEAST}) {
                e.refuses(Rig::rich, Due.SIZE, "sheet", 0, bits, n);
                e.refuses(Rig::rich, Due.SIZE, "sheet", 3, bits, n);
            }
        }
        e.under(48, "BEYOND: n is above 40 (also with bits 0).");
        for (int bits : new int[] {0, 8, 16, 32}) {
            for (int n : new int[] {41, 120, Edges.MOST}) {
                e.refuses(Rig::rich, Due.BEYOND, "sheet", 0, bits, n);
                e.refuses(Rig::rich, Due.BEYOND, "sheet", 3, bits, n);
            }
        }
    }

    /** What a number becomes is seen as a SENSE, or -1 if it is none. */
    private void becomes(int bits, int v, int want) {
        TitleMimes x = Rig.game("100", "");
        x.sheet(1, bits, 2);
        e.due("write(1, 0, " + v + ") of " + bits + " bits", x.write(1, 0, v), 1);
        e.due("load(1) of " + v, x.load(1), want < 0 ? 0 : 1);
        e.due("SENSE by " + v, x.wordOf(0, 2), Math.max(want, 0));
    }

    private void write() {
        e.under(49, "Number i of a sheet becomes v (its lowest bits): 1.");
        for (int bits : BITS) {
            becomes(bits, 0, 0);
            becomes(bits, 9, 9);
            becomes(bits, 10, -1);
            becomes(bits, -1, -1);
            becomes(bits, 256 + 3, bits == 8 ? 3 : -1);
            becomes(bits, -256 + 3, bits == 8 ? 3 : -1);
            becomes(bits, 128 + 3, -1);
            becomes(bits, 65536 + 4, bits < 32 ? 4 : -1);
            becomes(bits, Edges.LEAST + 5, bits < 32 ? 5 : -1);
            becomes(bits, 32768 + 4, bits == 8 ? 4 : -1);
            becomes(bits, Edges.MOST, -1);
        }
        TitleMimes x = row("100 100 100", 1, 2, 3);
        x.write(0, 1, 7);
        x.load(0);
        senses(x, "just that number", 1, 7, 3);
        e.under(49, "BEYOND: no such sheet.");
        e.outside(Rig::rich, 0, Edges.off(0, 3), "write", 0, 0, 1);
        e.outside(Rig::empty, 0, Edges.off(0, 3), "write", 0, 0, 1);
        e.under(49, "MISSING.");
        for (int i : new int[] {0, -1, 39, 40, Edges.LEAST}) {
            e.refuses(Rig::rich, Due.MISSING, "write", 3, i, 1);
            e.refuses(Rig::empty, Due.MISSING, "write", 0, i, 1);
        }
        e.under(49, "BEYOND: no such number.");
        e.outside(Rig::rich, 1, Edges.off(0, 2), "write", 0, 0, 5);
        e.outside(Rig::rich, 1, Edges.row(0, -1, 1, Edges.LEAST, Edges.MOST), "write", 1, 0, 5);
        e.outside(Rig::rich, 1, Edges.off(0, 1), "write", 2, 0, 5);
        e.outside(SheetEdges::two, 1, Edges.off(0, 39), "write", 0, 0, 5);
    }

    /** Sheets 0 and 1 of 40 and 3 numbers, 2 of as many as 1 but 16 bits, 3 missing; number i is i % 10. */
    private static TitleMimes two() {
        TitleMimes x = Rig.game("100 100 100 100 100 100", "");
        x.sheet(0, 8, 40);
        x.sheet(1, 8, 3);
        x.sheet(2, 16, 3);
        for (int i = 0; i < 40; i++) {
            x.write(0, i, i % 10);
        }
        return x;
    }

    private void copy() {
        e.under(50, "n numbers of a sheet from one on come to another one from one on (as they all were): n.");
        TitleMimes x = two();
        e.due("copy(0, 37, 1, 0, 3), the last to all", x.copy(0, 37, 1, 0, 3), 3);
        x.load(1);
        senses(x, "the last to all", 7, 8, 9);
        e.due("copy(0, 1, 1, 2, 1), to the last", x.copy(0, 1, 1, 2, 1), 1);
        x.load(1);
        senses(x, "to the last", 7, 8, 1);
        x.load(0);
        senses(x, "where they came from they stay", 0, 1, 2, 3, 4, 5);
        e.due("copy(0, 0, 0, 1, 39), up in itself", x.copy(0, 0, 0, 1, 39), 39);
        x.load(0);
        senses(x, "up in itself", 0, 0, 1, 2, 3, 4);
        x = two();
        e.due("copy(0, 2, 0, 0, 38), down in itself", x.copy(0, 2, 0, 0, 38), 38);
        x.load(0);
        senses(x, "down in itself", 2, 3, 4, 5, 6, 7);
        e.asks(SheetEdges::two, 40, "copy", 0, 0, 0, 0, 40);
        e.asks(SheetEdges::two, 0, "copy", 0, 0, 1, 0, 0);
        e.asks(SheetEdges::two, 0, "copy", 0, 40, 1, 3, 0);
        e.asks(Rig::rich, 0, "copy", 1, 0, 1, 0, 0);
        x = two();
        x.sheet(2, 32, 3);
        x.sheet(3, 32, 3);
        x.write(2, 0, 65536 + 7);
        x.copy(2, 0, 3, 0, 1);
        e.due("all its bits come", x.load(3), 0);
        e.under(50, "BEYOND: no such sheet (either).");
        e.outside(SheetEdges::two, 0, Edges.off(0, 3), "copy", 0, 0, 1, 0, 1);
        e.outside(SheetEdges::two, 2, Edges.off(0, 3), "copy", 0, 0, 1, 0, 1);
        e.outside(SheetEdges::two, 2, Edges.off(0, 3), "copy", 3, 0, 1, 0, 1);
        e.outside(SheetEdges::two, 0, Edges.off(0, 3), "copy", 3, 0, 3, 0, 1);
        e.under(50, "MISSING: one is.");
        e.refuses(SheetEdges::two, Due.MISSING, "copy", 3, 0, 0, 0, 1);
        e.refuses(SheetEdges::two, Due.MISSING, "copy", 0, 0, 3, 0, 1);
        e.refuses(SheetEdges::two, Due.MISSING, "copy", 3, 0, 3, 0, 0);
        e.refuses(SheetEdges::two, Due.MISSING, "copy", 0, 41, 3, -1, -1);
        e.under(50, "KIND: they are not of as many bits.");
        e.refuses(SheetEdges::two, Due.KIND, "copy", 0, 0, 2, 0, 1);
        e.refuses(SheetEdges::two, Due.KIND, "copy", 2, 0, 0, 0, 0);
        e.refuses(SheetEdges::two, Due.KIND, "copy", 1, 4, 2, -1, -1);
        e.refuses(Rig::rich, Due.KIND, "copy", 1, 0, 2, 0, 0);
        noSuchNumbers();
    }

    private void noSuchNumbers() {
        e.under(50, "BEYOND: one has not so many, or from, to or n is below 0.");
        int most = Edges.MOST;
        int[][] wrong = {
            {0, 0, 1, 0, 4}, {0, 0, 1, 1, 3}, {0, 0, 1, 3, 1}, {1, 0, 0, 0, 4}, {1, 1, 0, 0, 3}, {1, 3, 0, 0, 1},
            {0, 38, 1, 0, 3}, {1, 0, 0, 38, 3}, {0, 0, 0, 0, 41}, {0, 0, 0, 1, 40}, {0, 1, 0, 0, 40},
            {0, -1, 1, 0, 1}, {0, 0, 1, -1, 1}, {0, 0, 1, 0, -1}, {0, -1, 1, 0, 0}, {0, 0, 1, -1, 0}, {0, 2, 1, 2, -1},
            {0, 1, 1, 0, most}, {1, 0, 0, 1, most}, {0, most, 1, 0, 1}, {0, 0, 1, most, 1}, {0, most, 1, most, most},
            {0, Edges.LEAST, 1, 0, Edges.LEAST}, {0, 0, 1, 0, Edges.LEAST}, {0, most, 1, 0, -most}, {0, 41, 1, 0, 0},
            {0, 0, 1, 4, 0}};
        for (int[] w : wrong) {
            e.refuses(SheetEdges::two, Due.BEYOND, "copy", w[0], w[1], w[2], w[3], w[4]);
        }
        e.refuses(Rig::rich, Due.BEYOND, "copy", 1, 0, 1, 0, 1);
        e.refuses(Rig::rich, Due.BEYOND, "copy", 1, 1, 1, 0, 0);
    }

    private void load() {
        e.under(51, "Numbers of a sheet, from its begin on, become SENSES of WORDS 0, 1, ..: how many came.");
        TitleMimes x = row("123 234 345", 9, 0);
        e.due("fewer than WORDS", x.load(0), 2);
        senses(x, "fewer than WORDS", 9, 0, 5);
        e.due("SYLLABLES stay", x.wordOf(0, 0), 1);
        e.due("SOUND stays", x.wordOf(0, 1), 2);
        e.due("none", row("123").load(0), 0);
        x = row("123", 7);
        e.due("as many as WORDS", x.load(0), 1);
        senses(x, "as many as WORDS", 7);
        e.under(51, "It ends at the first that isn't 0 to 9, or for which there is no WORD.");
        for (int v : new int[] {10, -1, 255, 256, Edges.LEAST, Edges.MOST}) {
            x = row("123 234 345", 5, v, 6);
            e.due(v + " in between", x.load(0), 1);
            senses(x, v + " in between", 5, 4, 5);
            x = row("123 234 345", v, 6, 6);
            e.due(v + " at once", x.load(0), 0);
            senses(x, v + " at once", 3, 4, 5);
        }
        x = row("123 234", 8, 7, 6);
        e.due("no WORD for the third", x.load(0), 2);
        senses(x, "no WORD for the third", 8, 7);
        e.due("and no WORD comes", x.count(0), 2);
        e.due("no WORD at all", row("", 1, 2).load(0), 0);
        x = Rig.full();
        x.sheet(3, 8, 40);
        e.due("16 WORDS, 40 numbers", x.load(3), 16);
        e.due("the last WORD's SENSE", x.wordOf(15, 2), 0);
        e.under(51, "BEYOND: no such sheet.");
        e.outside(Rig::rich, 0, Edges.off(0, 3), "load", 0);
        e.outside(Rig::empty, 0, Edges.off(0, 3), "load", 0);
        e.under(51, "MISSING.");
        e.refuses(Rig::rich, Due.MISSING, "load", 3);
        e.refuses(Rig::empty, Due.MISSING, "load", 0);
    }

    /** Titles 0, 1 and 0 1 of words 2 3 4 and 1 5 0, which neither band knows, and a sheet of these numbers. */
    private static TitleMimes reader(int... numbers) {
        TitleMimes x = Rig.game("234 150", "0 1 01");
        for (int t = 0; t < 3; t++) {
            x.know(t, 0, false);
            x.know(t, 1, false);
        }
        x.sheet(2, 16, numbers.length);
        for (int i = 0; i < numbers.length; i++) {
            x.write(2, i, numbers[i]);
        }
        return x;
    }

    private void judges(int want, int... numbers) {
        e.asks(() -> reader(numbers), want, "judge", 2);
    }

    private void judge() {
        e.under(52, "THE READER, a tape: numbers of a sheet, two by two (what is left over tells nothing), are SIGNS (numbers) and what they TELL: the TITLES that fit all, as a set.");
        judges(7);
        judges(7, 0);
        judges(7, 28);
        judges(7, -1);
        judges(3, 0, 1);
        judges(4, 3, 2);
        judges(3, 0, 1, -1);
        judges(5, 12, 42);
        judges(1, 12, 42, 0, 1);
        judges(1, 12, 42, 0, 1, 99);
        judges(0, 12, 42, 0, 3);
        judges(0, 0, 1, 0, 2);
        judges(7, 27, 0);
        judges(4, 25, 2);
        judges(0, 25, -2);
        judges(0, 25, 65536 / 2);
        e.due("no numbers", Rig.rich().judge(1), 127);
        TitleMimes x = new TitleMimes();
        x.sheet(0, 8, 2);
        e.due("no TITLES", x.judge(0), 0);
        x = Rig.full();
        x.sheet(0, 8, 40);
        for (int i = 0; i < 40; i += 2) {
            x.write(0, i + 1, 1);
        }
        e.due("40 numbers", x.judge(0), (1 << 23) - 1);
        x.write(0, 39, 4);
        e.due("40 numbers, the last one tells", x.judge(0), 0);
        e.under(52, "BEYOND: no such sheet.");
        e.outside(Rig::rich, 0, Edges.off(0, 3), "judge", 1);
        e.outside(Rig::empty, 0, Edges.off(0, 3), "judge", 0);
        e.under(52, "MISSING.");
        e.refuses(Rig::rich, Due.MISSING, "judge", 3);
        e.refuses(Rig::empty, Due.MISSING, "judge", 0);
        e.under(52, "STATE: a number is no SIGN.");
        for (int v : new int[] {28, -1, 255, 32767, -32768}) {
            e.refuses(() -> reader(v, 0), Due.STATE, "judge", 2);
            e.refuses(() -> reader(0, 9, v, 0), Due.STATE, "judge", 2);
            e.refuses(() -> reader(27, 0, 0, 1, v, 0, 0), Due.STATE, "judge", 2);
        }
        e.due("no TITLES, but no SIGN", noTitles().judge(0), Due.STATE);
    }

    private static TitleMimes noTitles() {
        TitleMimes x = new TitleMimes();
        x.sheet(0, 32, 2);
        x.write(0, 0, 28);
        return x;
    }
}
