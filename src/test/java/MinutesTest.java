/** Promises 35 to 42: minutes, evenings. */
public final class MinutesTest {
    private static final Due D = new Due();

    public static void main(String[] args) {
        byRule();
        tooLong();
        justWithin();
        evenings();
        hats();
        fourInAHat();
        findings();
        D.finish();
    }

    /** Titles 0 to 3 of one word each with 2, 3, 4, 4 syllables; the last two differ in sound. */
    private static TitleMimes four() {
        TitleMimes x = new TitleMimes();
        x.title(x.word(2, 0, 0));
        x.title(x.word(3, 0, 0));
        x.title(x.word(4, 0, 0));
        x.title(x.word(4, 5, 0));
        return x;
    }

    private static void byRule() {
        TitleMimes x = four();
        // WHOLE 0 parts all, so it comes first with least WORST.
        D.due("minute(0, 0): WHOLE", x.minute(0, 0), 20);
        D.due("points(0, 0)", x.points(0, 0), 40);
        D.due("had(0)", x.had(0), 4);
        x.know(3, 1, false);
        D.due("minute(0, 1): COUNTING", x.minute(0, 1), 5);
        D.due("points(2, 1)", x.points(2, 1), 55);
        D.due("had(1)", x.had(1), 3);
        x.know(1, 1, false);
        x.know(2, 1, false);
        D.due("minute(0, 1), just one known", x.minute(0, 1), 0);
        D.due("points(0, 1), just one known", x.points(0, 1), 60);
        D.due("had(1), just one known", x.had(1), 1);
        x.know(0, 1, false);
        D.due("had(1), none known", x.had(1), 0);
        x.title(3);
        D.due("minute(4, 0), one like it", x.minute(4, 0), 20);
        D.due("points(4, 0), one like it", x.points(4, 0), 0);
        D.due("had(0), two alike", x.had(0), 3);
        x.slip(1, 0);
        x.show(5, 2);
        x.minute(0, 0);
        x.points(0, 0);
        x.had(0);
        D.due("a slip stays: now(0)", x.now(0), 1);
        D.due("a slip stays: now(2)", x.now(2), 2);
        D.due("a slip stays: now(3)", x.now(3), 1);
        D.due("a slip stays: now(4)", x.now(4), 31);
    }

    /** Words that nothing but WHOLE parts: a third one would end at 63 seconds. */
    private static void tooLong() {
        TitleMimes x = new TitleMimes();
        x.word(2, 0, 0);
        x.word(2, 0, 0);
        for (int t = 0; t < 8; t++) {
            x.title(t / 4);
            x.more(t, t / 2 % 2);
            x.more(t, t % 2);
        }
        D.due("minute(0, 0)", x.minute(0, 0), 41);
        D.due("points(0, 0)", x.points(0, 0), 0);
        D.due("had(0)", x.had(0), 0);
        for (int t = 1; t < 8; t += 2) {
            x.know(t, 0, false);
        }
        D.due("minute(0, 0) of four", x.minute(0, 0), 41);
        D.due("points(0, 0) of four", x.points(0, 0), 19);
        TitleMimes y = new TitleMimes();
        y.word(2, 0, 0);
        y.title(0);
        y.title(0);
        D.due("minute(0, 0): no sign parts", y.minute(0, 0), 0);
        D.due("points(0, 0): no sign parts", y.points(0, 0), 0);
    }

    /** For title 7 SIGN, ACTED 1, WHOLE 2 and WHOLE 3 are shown: 3, 15, 37, 60 seconds. */
    private static void justWithin() {
        TitleMimes x = new TitleMimes();
        for (int w = 0; w < 4; w++) {
            x.word(2, 0, w == 1 ? 0 : 1);
        }
        int[][] rows = {
            {0, 0, 3, 2}, {0, 0}, {1, 2, 2}, {1, 0, 1}, {0, 1, 3}, {3, 0, 1}, {2, 1, 0, 2}, {2, 1, 3, 3}, {0, 3},
            {2, 1, 3, 2}};
        for (int t = 0; t < rows.length; t++) {
            x.title(rows[t][0]);
            for (int i = 1; i < rows[t].length; i++) {
                x.more(t, rows[t][i]);
            }
        }
        D.due("minute(7, 0), to its end", x.minute(7, 0), 60);
        D.due("points(7, 0), to its end", x.points(7, 0), 0);
        D.due("had(0), to its end", x.had(0), 10);
    }

    private static int drawn(int z) {
        return z * 1103515245 + 12345;
    }

    private static void evenings() {
        TitleMimes x = four();
        x.title(3);
        x.more(4, 0);
        x.title(0);
        x.know(1, 0, false);
        // Titles 0 and 5 are alike; 3 and 4 need a SIGN behind WHOLE 0.
        int[] worth = {0, 40, 37, 37, 0};
        int[] titles = {0, 2, 3, 4, 5};
        for (int k = 0; k < 5; k++) {
            D.due("points(" + titles[k] + ", 0)", x.points(titles[k], 0), worth[k]);
        }
        D.due("count(5) at first", x.count(5), 1);
        for (int seed : new int[] {1, -7, 123456789}) {
            for (int n = 1; n <= 12; n++) {
                int z = seed;
                int want = 0;
                for (int k = 0; k < n; k++) {
                    z = drawn(z);
                    want += worth[(z >>> 8) % 5];
                }
                x.seed(seed);
                int before = x.score(0);
                D.due("ahead(0, " + n + ")", x.ahead(0, n), want);
                D.due("z after ahead", x.count(5), seed);
                D.due("score after ahead", x.score(0), before);
                D.due("evening(0, " + n + ")", x.evening(0, n), want);
                D.due("score after evening", x.score(0), before + want);
                D.due("seed after evening", x.seed(0), z);
            }
        }
        D.due("score(1)", x.score(1), 0);
        x.seed(-1000001);
        D.due("seed() tells no finding", x.seed(5), -1000001);
        D.due("status(-1)", x.status(-1), 0);
        x.slip(2, 0);
        x.evening(0, 2);
        D.due("a slip stays", x.now(0), 2);
    }

    private static void hats() {
        TitleMimes x = four();
        x.know(1, 1, false);
        x.know(2, 1, false);
        // Both know 0 and 3: band 0 has each by WHOLE, band 1 by POINTED.
        D.due("points(0, 1)", x.points(0, 1), 56);
        D.due("points(3, 1)", x.points(3, 1), 56);
        D.due("hat(1): as much, the least set", x.hat(1), 1);
        D.due("hat(2)", x.hat(2), 9);
        D.due("hat(3): not so many", x.hat(3), Due.NONE);
        D.due("unfair(): as much, the least", x.unfair(), 0);
        x.title(0);
        D.due("points(0, 0), two alike", x.points(0, 0), 0);
        D.due("hat(1), 3 brings most", x.hat(1), 8);
        D.due("unfair(), 3", x.unfair(), 3);
        D.due("hat(2)", x.hat(2), 9);
        x.know(0, 1, false);
        x.know(3, 1, false);
        D.due("hat(1), one left", x.hat(1), 16);
        D.due("unfair(), one left", x.unfair(), 4);
        x.know(4, 0, false);
        D.due("hat(1), none left", x.hat(1), Due.NONE);
        D.due("unfair(), none left", x.unfair(), Due.NONE);
    }

    /** Band 0 has titles by WHOLE, and 0 not at all; band 1 by POINTED, then COUNTING or SIGN. */
    private static void fourInAHat() {
        TitleMimes x = four();
        x.title(3);
        x.more(4, 0);
        x.title(0);
        x.know(5, 1, false);
        x.know(1, 0, false);
        x.know(2, 1, false);
        int[][] points = {{0, 51}, {40, 0}, {37, 53}, {37, 53}};
        int[] titles = {0, 2, 3, 4};
        for (int k = 0; k < 4; k++) {
            for (int band = 0; band < 2; band++) {
                int want = titles[k] == 2 && band == 1 ? Due.STATE : points[k][band];
                D.due("points(" + titles[k] + ", " + band + ")", x.points(titles[k], band), want);
            }
        }
        D.due("hat(1)", x.hat(1), 8);
        D.due("hat(2)", x.hat(2), 24);
        D.due("hat(3)", x.hat(3), 25);
        D.due("hat(4), three", x.hat(4), Due.NONE);
        D.due("unfair(): 51 more for band 1", x.unfair(), 0);
        x.know(2, 1, true);
        x.know(1, 0, true);
        D.due("hat(4), five", x.hat(4), 30);
        x.slip(1, 0);
        x.hat(2);
        x.unfair();
        D.due("a slip stays", x.now(4), 63);
    }

    private static void findings() {
        TitleMimes x = four();
        x.know(0, 1, false);
        D.due("minute(0, 1)", x.minute(0, 1), Due.STATE);
        D.due("points(0, 1)", x.points(0, 1), Due.STATE);
        int[][] wrong = {{4, 0}, {-1, 0}, {0, 2}, {0, -1}};
        for (int[] w : wrong) {
            D.due("minute(" + w[0] + ", " + w[1] + ")", x.minute(w[0], w[1]), Due.BEYOND);
            D.due("points(" + w[0] + ", " + w[1] + ")", x.points(w[0], w[1]), Due.BEYOND);
        }
        D.due("had(2)", x.had(2), Due.BEYOND);
        D.due("had(-1)", x.had(-1), Due.BEYOND);
        int[][] wrongEvenings = {{2, 1}, {-1, 1}, {0, 0}, {0, 13}, {0, -1}};
        for (int[] w : wrongEvenings) {
            D.due("evening(" + w[0] + ", " + w[1] + ")", x.evening(w[0], w[1]), Due.BEYOND);
            D.due("ahead(" + w[0] + ", " + w[1] + ")", x.ahead(w[0], w[1]), Due.BEYOND);
        }
        for (int t = 1; t < 4; t++) {
            x.know(t, 1, false);
        }
        D.due("evening(1, 1), none known", x.evening(1, 1), Due.STATE);
        D.due("ahead(1, 1), none known", x.ahead(1, 1), Due.STATE);
        D.due("evening(1, 0), none known", x.evening(1, 0), Due.BEYOND);
        D.due("z stays", x.count(5), 1);
        D.due("hat(0)", x.hat(0), Due.BEYOND);
        D.due("hat(5)", x.hat(5), Due.BEYOND);
    }
}
