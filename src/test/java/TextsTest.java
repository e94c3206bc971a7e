/** Promises 43 to 45: texts. */
public final class TextsTest {
    private static final Due D = new Due();

    public static void main(String[] args) {
        tape();
        items();
        only();
        faults();
        limits();
        nothingChanges();
        everyByte();
        D.finish();
    }

    private static void tape() {
        TitleMimes x = new TitleMimes();
        D.due("feed(1, 0)", x.feed(1, 0), Due.BEYOND);
        D.due("feed(1, 5)", x.feed(1, 5), Due.BEYOND);
        D.due("feed(1, -1)", x.feed(1, -1), Due.BEYOND);
        D.due("feed of the lowest byte", x.feed(0x41424377, 1), 1);
        D.due("feed of two", x.feed(0x41426f72, 2), 3);
        D.due("feed of three", x.feed(0x41642034, 3), 6);
        D.due("feed of four", x.feed(0x20202020, 4), 10);
        D.due("count(4)", x.count(4), 10);
        D.due("text(): word 4", x.text(), 1);
        D.due("count(4) after text()", x.count(4), 0);
        D.due("wordOf(0, 0)", x.wordOf(0, 0), 4);
        for (int k = 1; k <= 29; k++) {
            x.feed(0, 4);
        }
        D.due("116 and 3", x.feed(0, 3), 119);
        D.due("119 and 2", x.feed(0, 2), Due.FULL);
        D.due("119 and a wrong n", x.feed(0, 5), Due.BEYOND);
        D.due("119 and 1", x.feed(0, 1), 120);
        D.due("120 and 1", x.feed(0, 1), Due.FULL);
        D.due("wipe()", x.wipe(), 120);
        D.due("wipe() again", x.wipe(), 0);
        D.due("count(4) after wipe()", x.count(4), 0);
        x.feed(0xFFFFFFFF, 4);
        D.due("bytes above 127 begin no token", x.text(), -1);
    }

    private static void items() {
        TitleMimes x = new TitleMimes();
        D.due("a word", Due.read(x, "word 3"), 1);
        D.due("its sound without one", x.wordOf(0, 1), 0);
        D.due("its sense without one", x.wordOf(0, 2), 0);
        D.due("with sound", Due.read(x, "word 1 sound 9"), 1);
        D.due("wordOf(1, 1)", x.wordOf(1, 1), 9);
        D.due("with sense", Due.read(x, "word 6 sense 8"), 1);
        D.due("wordOf(2, 1)", x.wordOf(2, 1), 0);
        D.due("wordOf(2, 2)", x.wordOf(2, 2), 8);
        D.due("with both", Due.read(x, "word 2 sound 4 sense 5"), 1);
        D.due("wordOf(3, 0)", x.wordOf(3, 0), 2);
        D.due("wordOf(3, 1)", x.wordOf(3, 1), 4);
        D.due("wordOf(3, 2)", x.wordOf(3, 2), 5);
        D.due("without blanks", Due.read(x, "word5sound2sense1;title4 3;title 0"), 3);
        D.due("wordOf(4, 2)", x.wordOf(4, 2), 1);
        D.due("ith(0, 0)", x.ith(0, 0), 4);
        D.due("ith(0, 1)", x.ith(0, 1), 3);
        D.due("ith(0, 2)", x.ith(0, 2), Due.NONE);
        D.due("many blanks", Due.read(x, "  title   0  1   2 3  ;  title 3   "), 2);
        D.due("ith(2, 3)", x.ith(2, 3), 3);
        D.due("ith(3, 0)", x.ith(3, 0), 3);
        D.due("leading zeros", Due.read(x, "word 00000000000000000004 sound 007"), 1);
        D.due("wordOf(5, 0)", x.wordOf(5, 0), 4);
        D.due("wordOf(5, 1)", x.wordOf(5, 1), 7);
        D.due("a word there by then", Due.read(x, "word 1;title 6"), 2);
        D.due("with the least", Due.read(x, "word 1 sound 0 sense 0"), 1);
        D.due("wordOf(7, 0)", x.wordOf(7, 0), 1);
        D.due("known to both", x.known(0) & x.known(1), 31);
    }

    private static void only() {
        TitleMimes x = new TitleMimes();
        D.due("only", Due.read(x, "word 1;title 0;title 0;only 0 1;only 1 0"), 5);
        D.due("known(0)", x.known(0), 2);
        D.due("known(1)", x.known(1), 1);
        D.due("only again", Due.read(x, "only 0 0"), 1);
        D.due("known(0) then", x.known(0), 3);
        D.due("known(1) then", x.known(1), 0);
    }

    private static void fault(String text, int fault) {
        TitleMimes x = new TitleMimes();
        D.due("'" + text + "'", Due.read(x, text), -1 - fault);
        D.due("'" + text + "': count(4)", x.count(4), 0);
        D.due("'" + text + "': count(0)", x.count(0), 0);
        D.due("'" + text + "': count(1)", x.count(1), 0);
        D.due("'" + text + "': status(-1)", x.status(-1), 0);
    }

    private static void faults() {
        fault("", 0);
        fault("   ", 3);
        fault(";", 0);
        fault("word", 4);
        fault("word  ", 6);
        fault("word 1;", 7);
        fault("word 1; ", 8);
        fault("word 1;;word 1", 7);
        fault("word ;", 5);
        fault("word 0", 5);
        fault("word 7", 5);
        fault("word 1000", 5);
        fault("word 99999999999999999999", 5);
        fault("word 4294967297", 5);
        fault("word x", 5);
        fault("words 1", 0);
        fault("worda 1", 0);
        fault("aword 1", 0);
        fault("wordz 1", 0);
        fault("xord 1", 0);
        fault("worx 1", 0);
        fault("wor 1", 0);
        fault("Word 1", 0);
        fault("word 1 2", 7);
        fault("word 1 word 1", 7);
        fault("word 1 sound", 12);
        fault("word 1 sound 10", 13);
        fault("word 1 sound ;", 13);
        fault("word 1 sense 10", 13);
        fault("word 1 sense sound 1", 13);
        fault("word 1 sense 1 sound 1", 15);
        fault("word 1 sound 1 sound 1", 15);
        fault("word 1 sense 1 sense 1", 15);
        fault("word 1 sounds 1", 7);
        fault("word 1, word 1", 6);
        fault("word 1\tword 1", 6);
        fault("word 1\n", 6);
        fault("word -1", 5);
        fault("sound 1", 0);
        fault("1", 0);
        fault("title", 5);
        fault("title 0", 6);
        fault("title ;", 6);
        fault("word 1;title 1", 13);
        fault("word 1;title 0 1", 15);
        fault("word 1;title 0 0 0 0 0", 21);
        fault("word 1;title 0 0 0 0 x", 21);
        fault("word 1;title 0 1000", 15);
        fault("word 1;title", 12);
        fault("word 1;title 0;title 0 x", 23);
        fault("only 0 0", 5);
        fault("only", 4);
        fault("word 1;title 0;only 1 0", 20);
        fault("word 1;title 0;only 0 2", 22);
        fault("word 1;title 0;only 0", 21);
        fault("word 1;title 0;only 0 ", 22);
        fault("word 1;title 0;only 0;", 21);
        fault("word 1;title 0;only 0 1 1", 24);
        fault("word 1;title 0;only 0 1;", 24);
    }

    private static void limits() {
        TitleMimes x = new TitleMimes();
        for (int w = 0; w < 15; w++) {
            x.word(1, 0, 0);
        }
        D.due("a 17th word in a text", Due.read(x, "word 1; word x"), -9);
        D.due("none of it came", x.count(0), 15);
        D.due("the 16th word in a text", Due.read(x, "word 1"), 1);
        D.due("a 17th word", Due.read(x, " word 0"), -2);
        D.due("word 15 in a title", Due.read(x, "title 15"), 1);
        D.due("word 16 in a title", Due.read(x, "title 16"), -7);
        for (int t = 1; t < 23; t++) {
            x.title(0);
        }
        D.due("a 25th title in a text", Due.read(x, "title 0;title 99"), -9);
        D.due("the 24th title in a text", Due.read(x, "title 0;only 23 1"), 2);
        D.due("a 25th title", Due.read(x, "title"), -1);
        D.due("only 24", Due.read(x, "only 24 1"), -6);
        D.due("count(1)", x.count(1), 24);
        D.due("known(0)", x.known(0), (1 << 23) - 1);
    }

    private static void nothingChanges() {
        TitleMimes x = new TitleMimes();
        D.due("a text", Due.read(x, "word 1;title 0;title 0"), 3);
        D.due("a fault at the end", Due.read(x, "word 2;title 1;only 0 1;title 9"), -31);
        D.due("count(0)", x.count(0), 1);
        D.due("count(1)", x.count(1), 2);
        D.due("known(0)", x.known(0), 3);
        x.slip(0, 1);
        x.show(0, 0);
        x.seed(77);
        x.hold(3, 5);
        D.due("a text beside a slip", Due.read(x, "word 2;title 1"), 2);
        D.due("now(4) stays", x.now(4), 3);
        D.due("now(2) stays", x.now(2), 3);
        D.due("count(5) stays", x.count(5), 77);
        D.due("count(6) stays", x.count(6), 1);
    }

    private static void everyByte() {
        for (int b = 0; b < 256; b++) {
            TitleMimes x = new TitleMimes();
            x.feed(b, 1);
            D.due("byte " + b + " alone", x.text(), b == ' ' ? -2 : -1);
            Due.feed(x, "word 1");
            x.feed(b, 1);
            D.due("byte " + b + " behind a word", x.text(), behindWord(b));
        }
    }

    /** What text() answers when a byte follows "word 1". */
    private static int behindWord(int b) {
        if (b == ' ') {
            return 1;
        }
        if (b == ';') {
            return -1 - 7;
        }
        return b >= '0' && b <= '9' ? -1 - 5 : -1 - 6;
    }
}
