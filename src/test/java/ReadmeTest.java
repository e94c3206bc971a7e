import java.io.IOException;
import java.nio.file.Files;
import java.nio.file.Path;

/** The examples and the table of signs of README.md: each call stands there, and answers as it says. */
public final class ReadmeTest {
    private static final Due D = new Due();
    private static final TitleMimes GAME = new TitleMimes();
    private static String readme = "";

    public static void main(String[] args) throws IOException {
        readme = Files.readString(Path.of("README.md"));
        playExample();
        textExample();
        tableOfSigns();
        D.finish();
    }

    /** The example's next line; what it says of the answer is in it, behind the call. */
    private static void line(String words, int got, int want) {
        if (!readme.contains(words)) {
            D.fail("README.md has no line: " + words);
        }
        D.due(words, got, want);
    }

    private static void playExample() {
        line("int sea = game.word(1, 3, 2); ", GAME.word(1, 3, 2), 0);
        line("int river = game.word(2, 5, 2);\n", GAME.word(2, 5, 2), 1);
        line("int title = game.title(sea); ", GAME.title(0), 0);
        line("game.title(river);\n", GAME.title(1), 1);
        line("game.slip(title, 0);                 // played for band 0: 2 titles fit", GAME.slip(0, 0), 2);
        line("game.show(5, 0);                     // a SMALL sign at place 0: 1 title fits", GAME.show(5, 0), 1);
        line("game.end();                          // 58 points", GAME.end(), 58);
    }

    private static void textExample() {
        line("game.feed(0x776f7264, 4); ", GAME.feed(0x776f7264, 4), 4);
        line("game.feed(0x2033203b, 4); ", GAME.feed(0x2033203b, 4), 8);
        line("game.feed(0x7469746c, 4); ", GAME.feed(0x7469746c, 4), 12);
        line("game.feed(0x652032, 3); ", GAME.feed(0x652032, 3), 15);
        line("game.text();                         // 2 items:", GAME.text(), 2);
        D.due("syllables of the word told", GAME.wordOf(2, 0), 3);
        D.due("the title told", GAME.ith(2, 0), 2);
        line("game.text();                         // -1: ", GAME.text(), -1);
    }

    private static void tableOfSigns() {
        int[] seconds = {3, 5, 8, 12, 4, 2};
        for (int kind = 0; kind < seconds.length; kind++) {
            if (!readme.matches("(?s).*\\n\\| " + kind + " [A-Z]+ \\|[^|]+\\| " + seconds[kind] + " \\|\\n.*")) {
                D.fail("README.md tells other seconds of kind " + kind);
            }
            D.due("takes(" + kind + ", 3)", GAME.takes(kind, 3), seconds[kind]);
        }
        D.due("takes(6, 3)", GAME.takes(6, 3), 23);
    }
}
