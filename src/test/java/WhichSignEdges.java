/** Promises 22 to 34: which sign, sounds like. */
final class WhichSignEdges {
    private static final int ALL = (1 << 24) - 1;
    private static final int[] NO_SETS = {128, 129, 255, 1 << 24, -1, Edges.LEAST, Edges.MOST, -128};
    private final Edges e;

    private WhichSignEdges(Edges e) {
        this.e = e;
    }

    static void run(Edges e) {
        WhichSignEdges w = new WhichSignEdges(e);
        w.best();
        w.mean();
        w.two();
        w.twoWorst();
        w.quick();
        w.fewest();
        w.seconds();
        w.hardest();
        w.alike();
        w.like();
        w.sense();
        w.length();
        w.rare();
    }

    /** 24 titles of one word, all alike. */
    private static TitleMimes same() {
        TitleMimes x = Rig.game("200", "");
        for (int t = 0; t < 24; t++) {
            x.title(0);
        }
        return x;
    }

    /** Titles of 0 and 1 at three places: what tells 000 from all others must tell three places. */
    private static TitleMimes three() {
        return Rig.game("200 300", "000 100 010 001");
    }

    /** Likewise at four places. */
    private static TitleMimes four() {
        return Rig.game("200 300", "0000 1000 0100 0010 0001");
    }

    private void noSets(String name) {
        e.outside(Rig::rich, 0, NO_SETS, name, 0);
        e.outside(Rig::empty, 0, Edges.row(1, -1, Edges.LEAST, Edges.MOST), name, 0);
        e.outside(Rig::full, 0, Edges.row(1 << 24, -1, Edges.LEAST, ALL + 2), name, 0);
    }

    private void noSetsBehind(String name, int first) {
        e.outside(Rig::rich, 1, NO_SETS, name, first, 1);
        e.outside(Rig::full, 1, Edges.row(1 << 24 | 1, -1, Edges.LEAST | 1), name, first, 1);
    }

    private void best() {
        e.under(22, "The SIGN (number) of least WORST for a set: of several that which TAKES least, then the least number.");
        e.asks(Rig::empty, 20, "best", 0);
        e.asks(Rig::rich, 20, "best", 0);
        e.asks(Rig::rich, 20, "best", 64);
        e.asks(WhichSignEdges::same, 20, "best", ALL);
        e.due("how many words", Rig.game("200", "0 00").best(3), 0);
        e.due("COUNTING 0 and 1 take as much", Rig.game("200 300", "00 11").best(3), 4);
        e.due("COUNTING 1 alone", Rig.game("200 300", "00 01").best(3), 5);
        e.due("SOUNDING", Rig.game("200 210", "0 1").best(3), 8);
        e.due("POINTED takes less than SOUNDING", Rig.game("210 220", "0 1").best(3), 16);
        e.due("SMALL takes least", Rig.game("100 200", "0 1").best(3), 20);
        e.due("ACTED", Rig.game("200 201", "0 1").best(3), 12);
        e.due("WHOLE 3", Rig.game("200 200", "0000 0001").best(3), 27);
        e.due("WHOLE, of less WORST, though it takes most", Rig.game("200 300 200", "0 1 2").best(7), 24);
        e.under(22, "BEYOND.");
        noSets("best");
    }

    private void mean() {
        e.under(23, "The SIGN of least SUM for a set: likewise.");
        e.asks(Rig::empty, 20, "mean", 0);
        e.asks(Rig::rich, 20, "mean", 0);
        e.asks(Rig::rich, 20, "mean", 64);
        e.asks(WhichSignEdges::same, 20, "mean", ALL);
        // By POINTED 3 2 1, by SOUNDING 3 1 1 1: of as great a WORST, but less in SUM.
        Rig six = () -> Rig.game("200 330 340 360", "0 0 0 1 2 3");
        e.asks(six, 8, "mean", 63);
        e.asks(six, 16, "best", 63);
        // By SOUNDING 4 1 1 1 1, by COUNTING 4 4.
        Rig eight = () -> Rig.game("200 310 320 330 340", "0 0 0 0 1 2 3 4");
        e.asks(eight, 8, "mean", 255);
        e.asks(eight, 4, "best", 255);
        e.due("COUNTING 0 and 1 take as much", Rig.game("200 300", "00 11").mean(3), 4);
        e.due("POINTED takes less than SOUNDING", Rig.game("210 220", "0 1").mean(3), 16);
        e.under(23, "BEYOND.");
        noSets("mean");
    }

    private void two() {
        e.under(24, "Two unlike SIGNS by both of which the greatest part of a set is least: 100 times the lesser number, and the other one; of several the first so.");
        e.asks(Rig::empty, 1, "two", 0);
        e.asks(Rig::rich, 1, "two", 0);
        e.asks(Rig::rich, 1, "two", 64);
        e.asks(WhichSignEdges::same, 1, "two", ALL);
        e.due("COUNTING 0 and 1", Rig.game("200 300", "00 01 10 11").two(15), 405);
        e.due("SIGN 0 and WHOLE 3", Rig.game("200 200", "0000 0001").two(3), 27);
        e.due("the last two", Rig.game("200 200", "0000 0001 0010 0011").two(15), 2627);
        e.due("two of one kind are two", Rig.game("200", "0 00").two(3), 1);
        e.under(24, "BEYOND.");
        noSets("two");
    }

    private void twoWorst() {
        e.under(25, "How many are in that greatest part.");
        e.asks(Rig::empty, 0, "twoWorst", 0);
        e.asks(Rig::rich, 0, "twoWorst", 0);
        e.asks(Rig::rich, 1, "twoWorst", 64);
        e.asks(WhichSignEdges::same, 24, "twoWorst", ALL);
        e.asks(WhichSignEdges::same, 2, "twoWorst", 3 << 22);
        e.asks(WhichSignEdges::four, 3, "twoWorst", 31);
        e.due("by the last two", Rig.game("200 200", "0000 0001 0010 0011").twoWorst(15), 1);
        e.under(25, "BEYOND.");
        noSets("twoWorst");
    }

    /** Below some seconds SMALL 0 is the one, from then on another sign. */
    private void quickFrom(String words, String titles, int seconds, int sign) {
        TitleMimes x = Rig.game(words, titles);
        e.due("titles " + titles + ": quick(3, " + (seconds - 1) + ")", x.quick(3, seconds - 1), 20);
        e.due("titles " + titles + ": quick(3, " + seconds + ")", x.quick(3, seconds), sign);
        e.due("titles " + titles + ": quick(3, 60)", x.quick(3, 60), sign);
    }

    private void quick() {
        e.under(26, "The SIGN (number) of all that TAKE s seconds (0 to 60) or less of least WORST for a set, likewise.");
        e.asks(Rig::empty, 20, "quick", 0, 2);
        e.asks(Rig::rich, 20, "quick", 0, 60);
        e.asks(WhichSignEdges::same, 20, "quick", ALL, 60);
        // By POINTED 3 2 1, by SOUNDING 3 1 1 1: of as great a WORST.
        e.asks(() -> Rig.game("200 330 340 360", "0 0 0 1 2 3"), 16, "quick", 63, 60);
        quickFrom("200", "0 00", 3, 0);
        quickFrom("210 220", "0 1", 4, 16);
        quickFrom("200 300", "00 11", 5, 4);
        quickFrom("200 210", "0 1", 8, 8);
        quickFrom("200 201", "0 1", 12, 12);
        quickFrom("200 200", "0 1", 20, 24);
        quickFrom("200 200", "0000 0001", 23, 27);
        e.under(26, "BEYOND.");
        noSetsBehindSeconds();
        e.outside(Rig::rich, 1, Edges.off(0, 60), "quick", 1, 2);
        e.outside(Rig::empty, 1, Edges.off(0, 60), "quick", 0, 2);
        e.under(26, "NONE.");
        e.refuses(Rig::rich, Due.NONE, "quick", 127, 0);
        e.refuses(Rig::rich, Due.NONE, "quick", 127, 1);
        e.refuses(Rig::empty, Due.NONE, "quick", 0, 0);
    }

    private void noSetsBehindSeconds() {
        e.outside(Rig::rich, 0, NO_SETS, "quick", 1, 60);
        e.outside(Rig::rich, 0, NO_SETS, "quick", 1, 0);
        e.outside(Rig::empty, 0, Edges.row(1, -1), "quick", 0, 2);
    }

    private void fewest() {
        e.under(27, "The fewest SIGNS (1 to 3; 0 if it is alone in it) by which a TITLE is alone in its part of a set.");
        e.asks(WhichSignEdges::three, 0, "fewest", 0, 1);
        e.asks(Rig::rich, 0, "fewest", 6, 64);
        e.asks(WhichSignEdges::three, 1, "fewest", 0, 3);
        e.asks(WhichSignEdges::three, 2, "fewest", 0, 7);
        e.asks(WhichSignEdges::three, 3, "fewest", 0, 15);
        e.asks(WhichSignEdges::three, 1, "fewest", 3, 15);
        e.asks(WhichSignEdges::four, 3, "fewest", 0, 15);
        e.asks(WhichSignEdges::four, 3, "fewest", 0, 29);
        e.asks(WhichSignEdges::same, 0, "fewest", 23, 1 << 23);
        TitleMimes x = Rig.game("200 200", "0000 0001");
        e.due("by the last sign alone", x.fewest(0, 3), 1);
        x = Rig.game("200 200", "0000 0001 0010");
        e.due("by the last two", x.fewest(0, 7), 2);
        x = Rig.game("200 200", "0000 0001 0010 0100");
        e.due("by the last three", x.fewest(0, 15), 3);
        e.under(27, "BEYOND: it isn't in the set, too.");
        noSetsBehind("fewest", 0);
        e.outside(Rig::rich, 0, Edges.off(0, 6), "fewest", 0, 127);
        e.outside(Rig::rich, 0, Edges.row(32, 33, -32), "fewest", 0, 127);
        e.refuses(Rig::rich, Due.BEYOND, "fewest", 0, 126);
        e.refuses(Rig::rich, Due.BEYOND, "fewest", 6, 63);
        e.refuses(Rig::rich, Due.BEYOND, "fewest", 0, 0);
        e.refuses(Rig::empty, Due.BEYOND, "fewest", 0, 0);
        e.under(27, "NONE: not by three.");
        e.refuses(WhichSignEdges::four, Due.NONE, "fewest", 0, 31);
        e.refuses(WhichSignEdges::same, Due.NONE, "fewest", 23, 3 << 22);
        e.refuses(WhichSignEdges::same, Due.NONE, "fewest", 0, ALL);
    }

    private void seconds() {
        e.under(28, "The fewest seconds of one or two SIGNS by which a TITLE is alone in its part of a set (0 if it is alone in it).");
        e.asks(WhichSignEdges::three, 0, "seconds", 0, 1);
        e.asks(WhichSignEdges::same, 0, "seconds", 23, 1 << 23);
        e.asks(WhichSignEdges::three, 5, "seconds", 0, 3);
        e.asks(WhichSignEdges::three, 10, "seconds", 0, 7);
        e.due("SMALL 0", Rig.game("100 200", "0 1").seconds(1, 3), 2);
        e.due("SIGN, not SIGN twice", Rig.game("200", "0 00").seconds(0, 3), 3);
        e.due("WHOLE 3", Rig.game("200 200", "0000 0001").seconds(0, 3), 23);
        e.due("WHOLE 2 and 3", Rig.game("200 200", "0000 0001 0010").seconds(0, 7), 45);
        // WHOLE 0 tells it alone, but COUNTING 0 and POINTED 0 together take less.
        TitleMimes x = Rig.game("200 300 220", "0 1 2");
        e.due("two take less than one", x.seconds(0, 7), 9);
        e.due("though one would do", x.fewest(0, 7), 1);
        e.under(28, "BEYOND.");
        noSetsBehind("seconds", 0);
        e.outside(Rig::rich, 0, Edges.off(0, 6), "seconds", 0, 127);
        e.outside(Rig::rich, 0, Edges.row(32, 33, -32), "seconds", 0, 127);
        e.refuses(Rig::rich, Due.BEYOND, "seconds", 0, 126);
        e.refuses(Rig::rich, Due.BEYOND, "seconds", 6, 63);
        e.refuses(Rig::rich, Due.BEYOND, "seconds", 0, 0);
        e.refuses(Rig::empty, Due.BEYOND, "seconds", 0, 0);
        e.under(28, "NONE.");
        e.refuses(WhichSignEdges::three, Due.NONE, "seconds", 0, 15);
        e.refuses(WhichSignEdges::four, Due.NONE, "seconds", 0, 31);
        e.refuses(WhichSignEdges::same, Due.NONE, "seconds", 23, 3 << 22);
    }

    private void hardest() {
        e.under(29, "The TITLE of a set with most fewest() (not by three: 4).");
        e.asks(WhichSignEdges::three, 0, "hardest", 15);
        e.asks(WhichSignEdges::three, 1, "hardest", 14);
        e.asks(WhichSignEdges::three, 3, "hardest", 8);
        e.asks(WhichSignEdges::four, 0, "hardest", 31);
        e.asks(WhichSignEdges::same, 0, "hardest", ALL);
        e.asks(WhichSignEdges::same, 22, "hardest", 3 << 22);
        e.asks(WhichSignEdges::same, 23, "hardest", 1 << 23);
        TitleMimes x = Rig.game("200 300", "000 100 010 001 111 111");
        e.due("3 for the first", x.fewest(0, 63), 3);
        e.due("not by three counts more", x.hardest(63), 4);
        e.due("not by three counts more than two", x.hardest(62), 4);
        x = Rig.game("200 300", "100 010 001 000");
        e.due("the last one", x.hardest(15), 3);
        e.under(29, "BEYOND.");
        noSets("hardest");
        e.under(29, "NONE: it is empty.");
        e.refuses(Rig::empty, Due.NONE, "hardest", 0);
        e.refuses(Rig::rich, Due.NONE, "hardest", 0);
    }

    private void alike() {
        e.under(30, "Pairs of TITLES of a set of which all SIGNS TELL the same: how many.");
        e.asks(Rig::empty, 0, "alike", 0);
        e.asks(WhichSignEdges::same, 0, "alike", 0);
        e.asks(WhichSignEdges::same, 0, "alike", 1 << 23);
        e.asks(WhichSignEdges::same, 1, "alike", 1 << 23 | 1);
        e.asks(WhichSignEdges::same, 276, "alike", ALL);
        e.asks(Rig::rich, 0, "alike", 127);
        e.due("two and three", Rig.game("200 300", "0 1 0 1 1").alike(31), 1 + 3);
        e.due("two words of one kind", Rig.game("200 200", "0 1").alike(3), 0);
        e.due("but the last word", Rig.game("200 200", "0000 0001").alike(3), 0);
        e.due("but how many", Rig.game("200", "0000 000").alike(3), 0);
        e.under(30, "BEYOND.");
        noSets("alike");
    }

    private void like() {
        e.under(31, "The WORD, unlike it, with the same SOUND, and SYLLABLES nearest to its.");
        Rig words = () -> Rig.game("350 650 150 550 390 190 600 100 331 331", "");
        int[] like = {2, 3, 0, 1, 5, 4, 7, 6, 9, 8};
        for (int w = 0; w < like.length; w++) {
            e.asks(words, like[w], "like", w);
        }
        e.due("of as near ones, above first", Rig.game("200 300 100", "").like(0), 1);
        e.due("of as near ones, below first", Rig.game("200 100 300", "").like(0), 1);
        e.due("a nearer one behind", Rig.game("200 400 100 200", "").like(0), 3);
        e.due("the last word", Rig.full().like(5), 15);
        e.under(31, "BEYOND.");
        e.outside(Rig::rich, 0, Edges.off(0, 3), "like", 0);
        e.refuses(Rig::empty, Due.BEYOND, "like", 0);
        e.refuses(Rig::full, Due.BEYOND, "like", 16);
        e.under(31, "NONE.");
        for (int w = 0; w < 4; w++) {
            e.refuses(Rig::rich, Due.NONE, "like", w);
        }
        e.refuses(() -> Rig.game("100", ""), Due.NONE, "like", 0);
        e.due("another sound, all else as it is", Rig.game("123 133", "").like(0), Due.NONE);
    }

    private void sense() {
        e.under(32, "WORDS that have the SENSE of one (itself, too), as a set.");
        Rig words = () -> Rig.game("100 201 310 429 501 609", "");
        int[] sense = {1 | 4, 2 | 16, 1 | 4, 8 | 32, 2 | 16, 8 | 32};
        for (int w = 0; w < sense.length; w++) {
            e.asks(words, sense[w], "sense", w);
            e.asks(Rig::full, 3 << w / 2 * 2, "sense", w);
        }
        e.due("itself alone", Rig.rich().sense(0), 1);
        e.due("all 16", sixteen().sense(15), 65535);
        e.under(32, "BEYOND.");
        e.outside(Rig::rich, 0, Edges.off(0, 3), "sense", 0);
        e.refuses(Rig::empty, Due.BEYOND, "sense", 0);
        e.refuses(Rig::full, Due.BEYOND, "sense", 16);
    }

    private static TitleMimes sixteen() {
        TitleMimes x = new TitleMimes();
        for (int w = 0; w < 16; w++) {
            x.word(6, 0, 9);
        }
        return x;
    }

    private void length() {
        e.under(33, "SYLLABLES of a TITLE.");
        int[] length = {1, 2, 3, 7, 3, 8, 4};
        for (int t = 0; t < length.length; t++) {
            e.asks(Rig::rich, length[t], "length", t);
        }
        e.due("the most", Rig.game("600", "0000").length(0), 24);
        e.due("the least", Rig.game("100", "0").length(0), 1);
        e.under(33, "BEYOND.");
        e.outside(Rig::rich, 0, Edges.off(0, 6), "length", 0);
        e.refuses(Rig::empty, Due.BEYOND, "length", 0);
        e.refuses(Rig::full, Due.BEYOND, "length", 24);
    }

    private void rare() {
        e.under(34, "The place (0 to 3) of the WORD of a TITLE that fewest TITLES have.");
        Rig titles = () -> Rig.game("100 100 100 100 100", "0123 012 01 0 4 3344 4433");
        // Of words 0 to 4: 4, 3, 2, 3, 3 titles.
        int[] rare = {2, 2, 1, 0, 0, 0, 0};
        for (int t = 0; t < rare.length; t++) {
            e.asks(titles, rare[t], "rare", t);
        }
        e.due("the last place", Rig.game("100 100", "0001 0").rare(0), 3);
        e.due("more often in a title, but in fewer titles", Rig.game("100 100", "0111 0").rare(0), 1);
        e.due("a rarer word of no place of it", Rig.game("100 100", "1 1 0").rare(0), 0);
        e.due("a rarer word of the next title", Rig.game("100 100", "1111 0 1").rare(0), 0);
        e.asks(Rig::full, 0, "rare", 23);
        e.due("the first of three such", Rig.game("100 100 100 100", "0123 0").rare(0), 1);
        TitleMimes x = Rig.game("100 100", "01");
        for (int t = 1; t < 24; t++) {
            x.title(0);
        }
        e.due("one has it, and 24", x.rare(0), 1);
        for (int t = 1; t < 23; t++) {
            x.more(t, 1);
        }
        e.due("23 have it, and 24", x.rare(0), 1);
        x.more(23, 1);
        e.due("24 have each", x.rare(0), 0);
        e.under(34, "BEYOND.");
        e.outside(Rig::rich, 0, Edges.off(0, 6), "rare", 0);
        e.refuses(Rig::empty, Due.BEYOND, "rare", 0);
        e.refuses(Rig::full, Due.BEYOND, "rare", 24);
    }
}
