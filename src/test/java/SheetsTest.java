/** Promises 46 to 52: spots, sheets. */
public final class SheetsTest {
    private static final Due D = new Due();

    public static void main(String[] args) {
        spots();
        sheets();
        writes();
        copies();
        loads();
        judges();
        D.finish();
    }

    private static void spots() {
        TitleMimes x = new TitleMimes();
        D.due("hold(0, 27)", x.hold(0, 27), 1);
        D.due("hold(9, 0)", x.hold(9, 0), 1);
        D.due("count(6)", x.count(6), 2);
        D.due("as(0, 6)", x.as(0, 6), 3);
        D.due("as(9, 0)", x.as(9, 0), 0);
        D.due("hold(9, -1)", x.hold(9, -1), 1);
        D.due("as(9, 0), nothing", x.as(9, 0), Due.MISSING);
        D.due("count(6), one less", x.count(6), 1);
        D.due("hold(10, 0)", x.hold(10, 0), Due.BEYOND);
        D.due("hold(-1, 0)", x.hold(-1, 0), Due.BEYOND);
        D.due("hold(0, 28)", x.hold(0, 28), Due.BEYOND);
        D.due("hold(0, -2)", x.hold(0, -2), Due.BEYOND);
        D.due("as(0, 6), still", x.as(0, 6), 3);
        D.due("as(10, 0)", x.as(10, 0), Due.BEYOND);
        D.due("as(-1, 0)", x.as(-1, 0), Due.BEYOND);
        D.due("as(0, 7)", x.as(0, 7), Due.BEYOND);
        D.due("as(9, -1)", x.as(9, -1), Due.BEYOND);
        // Rows: the kind held; columns: the kind asked; 1 where it is that or under it.
        int[][] isOf = {
            {1, 0, 0, 0, 0, 0, 0}, {1, 1, 0, 0, 0, 0, 0}, {1, 0, 1, 0, 0, 0, 0}, {1, 1, 0, 1, 0, 0, 0},
            {1, 0, 1, 0, 1, 0, 0}, {1, 0, 0, 0, 0, 1, 0}, {1, 0, 0, 0, 0, 1, 1}};
        for (int sign = 0; sign < 28; sign++) {
            x.hold(4, sign);
            for (int kind = 0; kind < 7; kind++) {
                int want = isOf[sign / 4][kind] == 1 ? sign % 4 : Due.KIND;
                D.due("sign " + sign + " as(4, " + kind + ")", x.as(4, kind), want);
            }
        }
    }

    private static void sheets() {
        TitleMimes x = new TitleMimes();
        D.due("sheet(4, 8, 1)", x.sheet(4, 8, 1), Due.BEYOND);
        D.due("sheet(-1, 8, 1)", x.sheet(-1, 8, 1), Due.BEYOND);
        D.due("sheet(0, 7, 1)", x.sheet(0, 7, 1), Due.BEYOND);
        D.due("sheet(0, 64, -1)", x.sheet(0, 64, -1), Due.BEYOND);
        D.due("sheet(0, 8, -1)", x.sheet(0, 8, -1), Due.SIZE);
        D.due("sheet(0, 8, 41)", x.sheet(0, 8, 41), Due.BEYOND);
        D.due("sheet(0, 0, -1)", x.sheet(0, 0, -1), Due.SIZE);
        D.due("sheet(0, 0, 41)", x.sheet(0, 0, 41), Due.BEYOND);
        D.due("write(0, 0, 1), missing", x.write(0, 0, 1), Due.MISSING);
        D.due("sheet(0, 8, 40)", x.sheet(0, 8, 40), 40);
        D.due("sheet(1, 16, 0)", x.sheet(1, 16, 0), 0);
        D.due("write(1, 0, 1), empty", x.write(1, 0, 1), Due.BEYOND);
        D.due("load(1), empty", x.load(1), 0);
        D.due("sheet(3, 32, 2)", x.sheet(3, 32, 2), 2);
        D.due("write(0, 39, 1)", x.write(0, 39, 1), 1);
        D.due("write(0, 40, 1)", x.write(0, 40, 1), Due.BEYOND);
        D.due("sheet(0, 0, 40)", x.sheet(0, 0, 40), 0);
        D.due("load(0), missing", x.load(0), Due.MISSING);
        x.word(1, 0, 3);
        x.sheet(2, 32, 1);
        x.write(2, 0, 5);
        x.sheet(2, 32, 1);
        D.due("load(2) of a new sheet", x.load(2), 1);
        D.due("its numbers are 0", x.wordOf(0, 2), 0);
    }

    /** A number of a sheet can be seen as the sense that it becomes. */
    private static void sense(TitleMimes x, String what, int s, int v) {
        x.load(s);
        D.due(what, x.wordOf(0, 2), v);
    }

    private static void writes() {
        TitleMimes x = new TitleMimes();
        x.word(1, 0, 0);
        x.sheet(0, 8, 1);
        x.sheet(1, 16, 1);
        x.sheet(2, 32, 1);
        D.due("write(0, 0, 259)", x.write(0, 0, 259), 1);
        sense(x, "259 of 8 bits is 3", 0, 3);
        D.due("write(1, 0, 65540)", x.write(1, 0, 65540), 1);
        sense(x, "65540 of 16 bits is 4", 1, 4);
        x.write(2, 0, 259);
        D.due("load(2), 259 of 32 bits", x.load(2), 0);
        x.write(2, 0, 65540);
        D.due("load(2), 65540 of 32 bits", x.load(2), 0);
        x.write(1, 0, 259);
        D.due("load(1), 259 of 16 bits", x.load(1), 0);
        x.write(0, 0, 255);
        D.due("load(0), 255 of 8 bits", x.load(0), 0);
        D.due("write(4, 0, 0)", x.write(4, 0, 0), Due.BEYOND);
        D.due("write(-1, 0, 0)", x.write(-1, 0, 0), Due.BEYOND);
        D.due("write(3, 0, 0)", x.write(3, 0, 0), Due.MISSING);
        D.due("write(3, -1, 0)", x.write(3, -1, 0), Due.MISSING);
        D.due("write(0, 1, 0)", x.write(0, 1, 0), Due.BEYOND);
        D.due("write(0, -1, 0)", x.write(0, -1, 0), Due.BEYOND);
    }

    private static void row(TitleMimes x, String what, int s, int... row) {
        D.due(what + ": load", x.load(s), row.length);
        for (int k = 0; k < row.length; k++) {
            D.due(what + ": number " + k, x.wordOf(k, 2), row[k]);
        }
    }

    private static void copies() {
        TitleMimes x = new TitleMimes();
        for (int w = 0; w < 6; w++) {
            x.word(1, 0, 0);
        }
        x.sheet(0, 8, 6);
        x.sheet(1, 8, 4);
        x.sheet(2, 16, 6);
        for (int k = 0; k < 6; k++) {
            x.write(0, k, k + 1);
        }
        D.due("copy(0, 2, 1, 1, 3)", x.copy(0, 2, 1, 1, 3), 3);
        row(x, "copied", 1, 0, 3, 4, 5);
        D.due("copy(0, 0, 0, 1, 5)", x.copy(0, 0, 0, 1, 5), 5);
        row(x, "up in itself", 0, 1, 1, 2, 3, 4, 5);
        D.due("copy(0, 2, 0, 0, 4)", x.copy(0, 2, 0, 0, 4), 4);
        row(x, "down in itself", 0, 2, 3, 4, 5, 4, 5);
        D.due("copy of none at the end", x.copy(0, 6, 1, 4, 0), 0);
        D.due("copy(0, 7, 1, 0, 0)", x.copy(0, 7, 1, 0, 0), Due.BEYOND);
        D.due("copy(0, 0, 1, 0, 5)", x.copy(0, 0, 1, 0, 5), Due.BEYOND);
        D.due("copy(0, 0, 1, 1, 4)", x.copy(0, 0, 1, 1, 4), Due.BEYOND);
        D.due("copy(0, 4, 1, 0, 3)", x.copy(0, 4, 1, 0, 3), Due.BEYOND);
        D.due("copy(0, -1, 1, 0, 1)", x.copy(0, -1, 1, 0, 1), Due.BEYOND);
        D.due("copy(0, 0, 1, -1, 1)", x.copy(0, 0, 1, -1, 1), Due.BEYOND);
        D.due("copy(0, 0, 1, 0, -1)", x.copy(0, 0, 1, 0, -1), Due.BEYOND);
        int most = Integer.MAX_VALUE;
        D.due("copy from most", x.copy(0, most, 1, 0, most), Due.BEYOND);
        D.due("copy of most", x.copy(0, 1, 1, most, most), Due.BEYOND);
        D.due("copy(0, 0, 2, 0, 1)", x.copy(0, 0, 2, 0, 1), Due.KIND);
        D.due("copy(0, 9, 2, 0, 1)", x.copy(0, 9, 2, 0, 1), Due.KIND);
        D.due("copy(0, 0, 3, 0, 1)", x.copy(0, 0, 3, 0, 1), Due.MISSING);
        D.due("copy(3, 0, 0, 0, 1)", x.copy(3, 0, 0, 0, 1), Due.MISSING);
        D.due("copy(3, 0, 3, 0, -1)", x.copy(3, 0, 3, 0, -1), Due.MISSING);
        D.due("copy(4, 0, 3, 0, 1)", x.copy(4, 0, 3, 0, 1), Due.BEYOND);
        D.due("copy(3, 0, -1, 0, 1)", x.copy(3, 0, -1, 0, 1), Due.BEYOND);
        row(x, "nothing changed", 1, 0, 3, 4, 5);
    }

    private static void loads() {
        TitleMimes x = new TitleMimes();
        D.due("load(4)", x.load(4), Due.BEYOND);
        D.due("load(-1)", x.load(-1), Due.BEYOND);
        D.due("load(0)", x.load(0), Due.MISSING);
        x.sheet(0, 8, 4);
        D.due("load(0), no words", x.load(0), 0);
        for (int w = 0; w < 3; w++) {
            x.word(1, 0, 1);
        }
        for (int k = 0; k < 4; k++) {
            x.write(0, k, 9 - k);
        }
        D.due("load(0), a word too few", x.load(0), 3);
        D.due("wordOf(0, 2)", x.wordOf(0, 2), 9);
        D.due("wordOf(2, 2)", x.wordOf(2, 2), 7);
        x.write(0, 0, 5);
        x.write(0, 1, 10);
        D.due("load(0), 10", x.load(0), 1);
        D.due("wordOf(0, 2), came", x.wordOf(0, 2), 5);
        D.due("wordOf(1, 2), ended", x.wordOf(1, 2), 8);
        D.due("wordOf(2, 2), ended", x.wordOf(2, 2), 7);
        x.write(0, 0, -1);
        D.due("load(0), -1", x.load(0), 0);
        x.sheet(0, 8, 1);
        D.due("load(0), a short sheet", x.load(0), 1);
    }

    private static void judges() {
        TitleMimes x = new TitleMimes();
        x.word(2, 3, 4);
        x.word(1, 5, 0);
        x.title(0);
        x.title(1);
        x.title(0);
        x.more(2, 1);
        x.know(0, 0, false);
        x.know(0, 1, false);
        D.due("judge(4)", x.judge(4), Due.BEYOND);
        D.due("judge(-1)", x.judge(-1), Due.BEYOND);
        D.due("judge(0)", x.judge(0), Due.MISSING);
        x.sheet(0, 16, 0);
        D.due("judge(0), empty", x.judge(0), 7);
        x.sheet(0, 16, 1);
        x.write(0, 0, 99);
        D.due("judge(0), one left over", x.judge(0), 7);
        x.sheet(0, 16, 5);
        x.write(0, 0, 12);
        x.write(0, 1, 42);
        x.write(0, 2, 0);
        x.write(0, 3, 1);
        x.write(0, 4, -5);
        D.due("judge(0): ACTED 42, one word", x.judge(0), 1);
        x.write(0, 3, 2);
        D.due("judge(0): ACTED 42, two words", x.judge(0), 4);
        x.write(0, 3, 3);
        D.due("judge(0): none", x.judge(0), 0);
        x.write(0, 2, 28);
        D.due("judge(0): 28 is no sign", x.judge(0), Due.STATE);
        x.write(0, 2, -1);
        D.due("judge(0): -1 is no sign", x.judge(0), Due.STATE);
        x.write(0, 2, 27);
        x.write(0, 3, 0);
        D.due("judge(0): WHOLE 3 of none", x.judge(0), 5);
        x.write(0, 2, 25);
        x.write(0, 3, 2);
        D.due("judge(0): WHOLE 1", x.judge(0), 4);
        x.write(0, 1, -42);
        D.due("judge(0): what no sign tells", x.judge(0), 0);
    }
}
