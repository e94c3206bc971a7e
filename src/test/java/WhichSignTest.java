/** Promises 22 to 30: which sign. */
public final class WhichSignTest {
    private static final Due D = new Due();

    public static void main(String[] args) {
        leastSigns();
        sumAgainstWorst();
        pairs();
        fewest();
        byThree();
        notByThree();
        findings();
        D.finish();
    }

    /** Words, and a title of each alone. */
    private static TitleMimes single(int[]... words) {
        TitleMimes x = new TitleMimes();
        for (int[] w : words) {
            x.title(x.word(w[0], w[1], w[2]));
        }
        return x;
    }

    private static void leastSigns() {
        TitleMimes x = single(new int[] {2, 0, 0}, new int[] {3, 0, 0}, new int[] {4, 0, 0});
        D.due("best(7): COUNTING 0", x.best(7), 4);
        D.due("mean(7): COUNTING 0", x.mean(7), 4);
        D.due("best(1): SMALL 0 takes least", x.best(1), 20);
        D.due("quick(7, 60)", x.quick(7, 60), 4);
        D.due("quick(7, 5)", x.quick(7, 5), 4);
        D.due("quick(7, 4)", x.quick(7, 4), 20);
        D.due("quick(7, 2)", x.quick(7, 2), 20);
        D.due("quick(7, 1)", x.quick(7, 1), Due.NONE);
        D.due("quick(7, 0)", x.quick(7, 0), Due.NONE);
        x = single(new int[] {2, 0, 0}, new int[] {2, 0, 1}, new int[] {2, 0, 2});
        D.due("best(7): ACTED 0 before WHOLE 0", x.best(7), 12);
        D.due("quick(7, 11)", x.quick(7, 11), 20);
        x = single(new int[] {2, 1, 0}, new int[] {2, 2, 0});
        D.due("best(3): POINTED takes less than SOUNDING", x.best(3), 16);
        x = single(new int[] {2, 0, 0}, new int[] {2, 1, 0});
        D.due("best(3): SOUNDING 0", x.best(3), 8);
        x = single(new int[] {2, 0, 0}, new int[] {2, 0, 0});
        D.due("best(3): WHOLE 0", x.best(3), 24);
        x.more(0, 1);
        D.due("best(3): how many words", x.best(3), 0);
        D.due("quick(3, 2)", x.quick(3, 2), 20);
        D.due("quick(3, 3)", x.quick(3, 3), 0);
    }

    /** First words part six titles 3 3 by COUNTING, 3 2 1 by POINTED, 3 1 1 1 by SOUNDING. */
    private static void sumAgainstWorst() {
        TitleMimes x = new TitleMimes();
        x.word(2, 0, 0);
        x.word(3, 3, 0);
        x.word(3, 4, 0);
        x.word(3, 6, 0);
        for (int w : new int[] {0, 0, 0, 1, 2, 3}) {
            x.title(w);
        }
        D.due("sum(1, 0, 63)", x.sum(1, 0, 63), 18);
        D.due("sum(4, 0, 63)", x.sum(4, 0, 63), 14);
        D.due("sum(2, 0, 63)", x.sum(2, 0, 63), 12);
        D.due("sum(6, 0, 63)", x.sum(6, 0, 63), 12);
        D.due("best(63): of worst 3 POINTED takes least", x.best(63), 16);
        D.due("mean(63): of sum 12 SOUNDING takes least", x.mean(63), 8);
        D.due("quick(63, 4)", x.quick(63, 4), 16);
        D.due("quick(63, 3)", x.quick(63, 3), 20);
    }

    private static void pairs() {
        TitleMimes x = new TitleMimes();
        x.word(2, 0, 0);
        x.word(3, 0, 0);
        // Titles 0 0, 0 1, 1 0, 1 1: two places must be told.
        for (int t = 0; t < 4; t++) {
            x.title(t / 2);
            x.more(t, t % 2);
        }
        D.due("two(15): COUNTING 0 and 1", x.two(15), 405);
        D.due("twoWorst(15)", x.twoWorst(15), 1);
        D.due("two(3): SIGN 0 and COUNTING 1", x.two(3), 5);
        D.due("two(1): the first", x.two(1), 1);
        D.due("twoWorst(1)", x.twoWorst(1), 1);
        D.due("two(0)", x.two(0), 1);
        D.due("twoWorst(0)", x.twoWorst(0), 0);
        x.title(1);
        x.more(4, 1);
        D.due("twoWorst(31), two alike", x.twoWorst(31), 2);
        D.due("alike(31)", x.alike(31), 1);
        D.due("alike(15)", x.alike(15), 0);
        x.title(1);
        x.more(5, 1);
        D.due("alike(63), three alike", x.alike(63), 3);
        D.due("alike(48)", x.alike(48), 1);
        D.due("alike(0)", x.alike(0), 0);
        x.more(5, 1);
        D.due("alike(63), one longer", x.alike(63), 1);
    }

    private static void fewest() {
        TitleMimes x = new TitleMimes();
        x.word(2, 0, 0);
        x.word(3, 0, 0);
        for (int t = 0; t < 4; t++) {
            x.title(t / 2);
            x.more(t, t % 2);
        }
        x.title(0);
        D.due("fewest(0, 1)", x.fewest(0, 1), 0);
        D.due("fewest(0, 15)", x.fewest(0, 15), 2);
        D.due("fewest(4, 31)", x.fewest(4, 31), 1);
        D.due("seconds(0, 1)", x.seconds(0, 1), 0);
        D.due("seconds(0, 3)", x.seconds(0, 3), 5);
        D.due("seconds(0, 15)", x.seconds(0, 15), 10);
        D.due("seconds(4, 31): SIGN", x.seconds(4, 31), 3);
        D.due("hardest(31)", x.hardest(31), 0);
        D.due("hardest(17)", x.hardest(17), 0);
        D.due("hardest(16)", x.hardest(16), 4);
        D.due("fewest(0, 17)", x.fewest(0, 17), 1);
        // Titles 1 and 2 differ from 0 in one place each; 0 alone needs both.
        D.due("hardest(7)", x.hardest(7), 0);
        D.due("hardest(14)", x.hardest(14), 3);
        D.due("fewest(1, 7)", x.fewest(1, 7), 1);
        D.due("fewest(0, 2), not in it", x.fewest(0, 2), Due.BEYOND);
        D.due("seconds(0, 2), not in it", x.seconds(0, 2), Due.BEYOND);
        x.change(0, 0, 3);
        D.due("seconds(0, 3): WHOLE 1", x.seconds(0, 3), 21);
        D.due("seconds(0, 15): WHOLE 0 and 1", x.seconds(0, 15), 41);
    }

    /** Titles of words 0 and 1 at three places: that of three 0 needs all three places. */
    private static void byThree() {
        TitleMimes x = new TitleMimes();
        x.word(2, 0, 0);
        x.word(3, 0, 0);
        int[][] rows = {{0, 0, 0}, {1, 0, 0}, {0, 1, 0}, {0, 0, 1}};
        for (int t = 0; t < 4; t++) {
            x.title(rows[t][0]);
            x.more(t, rows[t][1]);
            x.more(t, rows[t][2]);
        }
        D.due("fewest(0, 15)", x.fewest(0, 15), 3);
        D.due("seconds(0, 15)", x.seconds(0, 15), Due.NONE);
        D.due("fewest(1, 15)", x.fewest(1, 15), 1);
        D.due("hardest(15)", x.hardest(15), 0);
        D.due("hardest(14)", x.hardest(14), 1);
        D.due("fewest(0, 7)", x.fewest(0, 7), 2);
    }

    /** At four places that of four 0 needs four signs, and a title alike can't be had at all. */
    private static void notByThree() {
        TitleMimes x = new TitleMimes();
        x.word(2, 0, 0);
        x.word(3, 0, 0);
        for (int t = 0; t < 5; t++) {
            x.title(t == 4 ? 1 : 0);
            for (int i = 1; i < 4; i++) {
                x.more(t, t == i ? 1 : 0);
            }
        }
        D.due("fewest(0, 31)", x.fewest(0, 31), Due.NONE);
        D.due("fewest(4, 31)", x.fewest(4, 31), 1);
        D.due("hardest(31)", x.hardest(31), 0);
        D.due("fewest(0, 15)", x.fewest(0, 15), 3);
        x.title(0);
        x.title(0);
        D.due("fewest(6, 127), alike", x.fewest(6, 127), Due.NONE);
        D.due("seconds(6, 127), alike", x.seconds(6, 127), Due.NONE);
        D.due("hardest(126)", x.hardest(126), 5);
        D.due("hardest(127)", x.hardest(127), 0);
    }

    private static void findings() {
        TitleMimes x = single(new int[] {2, 0, 0}, new int[] {3, 0, 0});
        for (int set : new int[] {4, 5, -1, Integer.MIN_VALUE, 1 << 24}) {
            D.due("best(" + set + ")", x.best(set), Due.BEYOND);
            D.due("mean(" + set + ")", x.mean(set), Due.BEYOND);
            D.due("two(" + set + ")", x.two(set), Due.BEYOND);
            D.due("twoWorst(" + set + ")", x.twoWorst(set), Due.BEYOND);
            D.due("quick(" + set + ", 1)", x.quick(set, 1), Due.BEYOND);
            D.due("fewest(0, " + set + ")", x.fewest(0, set), Due.BEYOND);
            D.due("seconds(0, " + set + ")", x.seconds(0, set), Due.BEYOND);
            D.due("hardest(" + set + ")", x.hardest(set), Due.BEYOND);
            D.due("alike(" + set + ")", x.alike(set), Due.BEYOND);
        }
        D.due("quick(3, -1)", x.quick(3, -1), Due.BEYOND);
        D.due("quick(3, 61)", x.quick(3, 61), Due.BEYOND);
        D.due("fewest(2, 3)", x.fewest(2, 3), Due.BEYOND);
        D.due("fewest(-1, 3)", x.fewest(-1, 3), Due.BEYOND);
        D.due("fewest(32, 3)", x.fewest(32, 3), Due.BEYOND);
        D.due("seconds(2, 3)", x.seconds(2, 3), Due.BEYOND);
        D.due("seconds(-1, 3)", x.seconds(-1, 3), Due.BEYOND);
        D.due("hardest(0)", x.hardest(0), Due.NONE);
    }
}
