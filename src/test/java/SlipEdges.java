/** Promises 11 to 21: signs, a slip. */
final class SlipEdges {
    private static final int ALL = (1 << 24) - 1;
    /** Bits of no title of the rich object, alone and beside bits of titles. */
    private static final int[] NO_SETS = {128, 129, 255, 1 << 24, -1, Edges.LEAST, Edges.MOST, -128};
    private final Edges e;

    private SlipEdges(Edges e) {
        this.e = e;
    }

    static void run(Edges e) {
        SlipEdges s = new SlipEdges(e);
        s.tells();
        s.takes();
        s.parts();
        s.worst();
        s.sum();
        s.slip();
        s.show();
        s.now();
        s.shout();
        s.end();
        s.score();
    }

    private void tells() {
        e.under(11, "What a SIGN (KIND, place) TELLS of a TITLE.");
        // Of title 3 of the rich object: words 1 2 3, of 2 3 4, 2 5 1, 3 2 5.
        int[][] told = {{3, 3, 3, 3}, {2, 2, 3, 0}, {4, 6, 3, 0}, {42, 12, 53, 0}, {1, 2, 1, 0}, {0, 0, 0, 0}, {2, 3, 4, 0}};
        for (int kind = 0; kind < 7; kind++) {
            for (int i = 0; i < 4; i++) {
                e.asks(Rig::rich, told[kind][i], "tells", kind, i, 3);
            }
        }
        e.asks(Rig::rich, 1, "tells", 5, 1, 5);
        e.asks(Rig::full, 4, "tells", 0, 3, 23);
        e.under(11, "BEYOND.");
        e.outside(Rig::rich, 0, Edges.off(0, 6), "tells", 0, 0, 0);
        e.outside(Rig::rich, 1, Edges.off(0, 3), "tells", 0, 0, 0);
        e.outside(Rig::rich, 1, Edges.off(0, 3), "tells", 6, 0, 5);
        e.outside(Rig::rich, 2, Edges.off(0, 6), "tells", 0, 0, 0);
        e.refuses(Rig::empty, Due.BEYOND, "tells", 0, 0, 0);
        e.refuses(Rig::full, Due.BEYOND, "tells", 0, 0, 24);
    }

    private void takes() {
        e.under(12, "What it TAKES.");
        int[] first = {3, 5, 8, 12, 4, 2, 20};
        for (int kind = 0; kind < 7; kind++) {
            e.asks(Rig::empty, first[kind], "takes", kind, 0);
            e.asks(Rig::rich, kind == 6 ? 23 : first[kind], "takes", kind, 3);
        }
        e.under(12, "BEYOND.");
        e.outside(Rig::rich, 0, Edges.off(0, 6), "takes", 0, 0);
        e.outside(Rig::rich, 1, Edges.off(0, 3), "takes", 0, 0);
        e.outside(Rig::empty, 1, Edges.off(0, 3), "takes", 6, 0);
    }

    private void noSets(String name, int kind, int i) {
        e.outside(Rig::rich, 2, NO_SETS, name, kind, i, 0);
        e.outside(Rig::rich, 0, Edges.off(0, 6), name, kind, i, 1);
        e.outside(Rig::rich, 1, Edges.off(0, 3), name, kind, i, 1);
        e.outside(Rig::rich, 1, Edges.off(0, 3), name, kind, i, 0);
        e.outside(Rig::empty, 2, Edges.row(1, -1, Edges.LEAST), name, kind, i, 0);
        e.outside(Rig::full, 2, Edges.row(1 << 24, -1, Edges.LEAST, ALL + 2), name, kind, i, 0);
    }

    private void parts() {
        e.under(13, "How many parts a SIGN makes of a set of TITLES.");
        e.asks(Rig::empty, 0, "parts", 0, 0, 0);
        e.asks(Rig::rich, 0, "parts", 6, 3, 0);
        e.asks(Rig::rich, 1, "parts", 6, 3, 64);
        e.asks(Rig::rich, 4, "parts", 0, 0, 127);
        e.asks(Rig::rich, 1, "parts", 0, 2, 1 | 2 | 16);
        e.asks(Rig::rich, 3, "parts", 6, 0, 1 | 2 | 16);
        e.asks(Rig::rich, 1, "parts", 6, 0, 1);
        e.due("of the most that a SIGN TELLS", Rig.game("699 698 689", "0 1 2").parts(3, 0, 7), 2);
        e.asks(Rig::full, 16, "parts", 6, 0, ALL);
        e.asks(Rig::full, 2, "parts", 6, 3, ALL);
        e.asks(Rig::full, 1, "parts", 6, 3, ALL >> 1);
        e.under(13, "BEYOND: bits of no TITLE, too.");
        noSets("parts", 0, 0);
    }

    private void worst() {
        e.under(14, "WORST (0 with an empty set).");
        e.asks(Rig::empty, 0, "worst", 0, 0, 0);
        e.asks(Rig::rich, 0, "worst", 6, 3, 0);
        e.asks(Rig::rich, 1, "worst", 6, 3, 64);
        e.asks(Rig::rich, 1, "worst", 6, 3, 1);
        e.asks(Rig::rich, 3, "worst", 0, 0, 127);
        e.asks(Rig::rich, 1, "worst", 6, 0, 1 | 2 | 16);
        e.asks(Rig::full, 2, "worst", 6, 0, ALL);
        e.asks(Rig::full, 23, "worst", 0, 3, ALL);
        e.due("24 alike", alike().worst(3, 0, ALL), 24);
        e.under(14, "BEYOND likewise.");
        noSets("worst", 1, 1);
    }

    private void sum() {
        e.under(15, "THE SUM.");
        e.asks(Rig::empty, 0, "sum", 0, 0, 0);
        e.asks(Rig::rich, 0, "sum", 6, 3, 0);
        e.asks(Rig::rich, 1, "sum", 6, 3, 64);
        e.asks(Rig::rich, 1, "sum", 6, 3, 1);
        e.asks(Rig::rich, 9 + 4 + 1 + 1, "sum", 0, 0, 127);
        e.asks(Rig::rich, 3, "sum", 6, 0, 1 | 2 | 16);
        e.asks(Rig::full, 8 * 4 + 8, "sum", 6, 0, ALL);
        e.due("24 alike", alike().sum(3, 0, ALL), 576);
        e.under(15, "BEYOND likewise.");
        noSets("sum", 2, 2);
    }

    private static TitleMimes alike() {
        TitleMimes x = Rig.game("199", "");
        for (int t = 0; t < 24; t++) {
            x.title(0);
        }
        return x;
    }

    private void now(TitleMimes x, String when, int... facts) {
        for (int what = 0; what < 6; what++) {
            e.due(when + ": now(" + what + ")", x.now(what), facts[what]);
        }
    }

    private void slip() {
        e.under(16, "A SLIP of a TITLE for a BAND; nothing is shown: how many are FITTING.");
        TitleMimes x = Rig.rich();
        e.due("slip(3, 1)", x.slip(3, 1), 6);
        now(x, "slip(3, 1)", 3, 1, 0, 0, 111, 0);
        x.show(6, 0);
        e.due("slip(4, 0) in another's place", x.slip(4, 0), 6);
        now(x, "slip(4, 0)", 4, 0, 0, 0, 125, 0);
        e.due("the other brought nothing", x.count(2), 60);
        x = Rig.full();
        e.due("24 fit", x.slip(23, 0), 24);
        x = Rig.game("100", "0");
        e.due("one fits", x.slip(0, 0), 1);
        now(x, "had as it begins", 0, 0, 0, 0, 1, 1);
        e.under(16, "BEYOND.");
        e.outside(Rig::rich, 0, Edges.off(0, 6), "slip", 0, 0);
        e.outside(Rig::rich, 1, Edges.off(0, 1), "slip", 0, 0);
        e.outside(Rig::idle, 0, Edges.off(0, 6), "slip", 0, 1);
        e.refuses(Rig::empty, Due.BEYOND, "slip", 0, 0);
        e.refuses(Rig::full, Due.BEYOND, "slip", 24, 0);
        e.under(16, "STATE: that BAND doesn't KNOW it.");
        e.refuses(Rig::rich, Due.STATE, "slip", 4, 1);
        e.refuses(Rig::rich, Due.STATE, "slip", 1, 0);
        e.refuses(Rig::idle, Due.STATE, "slip", 4, 1);
        e.due("the other band knows it", Rig.idle().slip(1, 1), 6);
    }

    /** A slip of the only title that has seconds used: 58, by WHOLE 3, WHOLE 3, ACTED 0. */
    private static TitleMimes late() {
        TitleMimes x = Rig.game("100", "0");
        x.slip(0, 1);
        x.show(6, 3);
        x.show(6, 3);
        x.show(3, 0);
        return x;
    }

    private void show() {
        e.under(17, "A SIGN is shown: how many are FITTING.");
        TitleMimes x = Rig.rich();
        x.slip(3, 1);
        e.due("a place where it has no word: 5 have none", x.show(6, 3), 5);
        now(x, "show(6, 3)", 3, 1, 23, 1, 79, 0);
        e.due("the same sign again", x.show(6, 3), 5);
        now(x, "show(6, 3) again", 3, 1, 46, 2, 79, 0);
        e.due("show(0, 3)", x.show(0, 3), 1);
        now(x, "show(0, 3)", 3, 1, 49, 3, 8, 1);
        e.due("had already", x.show(5, 0), 1);
        now(x, "show(5, 0)", 3, 1, 51, 4, 8, 1);
        e.under(17, "BEYOND.");
        e.outside(Rig::rich, 0, Edges.off(0, 6), "show", 0, 0);
        e.outside(Rig::rich, 1, Edges.off(0, 3), "show", 0, 0);
        e.under(17, "NONE: there is no SLIP.");
        e.refuses(Rig::empty, Due.NONE, "show", 0, 0);
        e.refuses(Rig::idle, Due.NONE, "show", 6, 3);
        e.under(17, "STATE: SECONDS would be above 60.");
        e.refuses(SlipEdges::late, Due.STATE, "show", 0, 0);
        e.refuses(SlipEdges::late, Due.STATE, "show", 6, 0);
        x = late();
        e.due("to 60 just", x.show(5, 3), 1);
        now(x, "60 seconds", 0, 1, 60, 4, 1, 1);
        e.due("above 60", x.show(5, 0), Due.STATE);
        now(x, "60 seconds still", 0, 1, 60, 4, 1, 1);
    }

    private void now() {
        e.under(18, "Of the SLIP: what 0 its TITLE, 1 its BAND, 2 SECONDS, 3 SIGNS shown, 4 FITTING, as a set, 5 1 if it is HAD, else 0.");
        int[] facts = {2, 1, 3, 1, 68, 0};
        int[] lates = {0, 1, 58, 3, 1, 1};
        for (int what = 0; what < 6; what++) {
            e.asks(Rig::rich, facts[what], "now", what);
            e.asks(SlipEdges::late, lates[what], "now", what);
        }
        e.under(18, "BEYOND.");
        e.outside(Rig::rich, 0, Edges.off(0, 5), "now", 0);
        e.under(18, "NONE.");
        for (int what = 0; what < 6; what++) {
            e.refuses(Rig::empty, Due.NONE, "now", what);
            e.refuses(Rig::idle, Due.NONE, "now", what);
        }
    }

    private void shout() {
        e.under(19, "A shout of a TITLE: if it is the SLIP's, it alone is FITTING from then on; else it is ruled out: how many are FITTING.");
        TitleMimes x = Rig.full();
        x.slip(5, 0);
        e.due("shout(23), wrong", x.shout(23), 23);
        e.due("shout(0), wrong", x.shout(0), 22);
        now(x, "ruled out", 5, 0, 0, 0, ALL - (1 << 23) - 1, 0);
        x.show(5, 1);
        e.due("a sign brings none back", x.now(4), (ALL >> 1) - 1);
        e.due("shout(5), right", x.shout(5), 1);
        now(x, "it alone", 5, 0, 2, 1, 32, 1);
        x.show(0, 0);
        now(x, "from then on", 5, 0, 5, 2, 32, 1);
        e.due("shout(5) again", x.shout(5), 1);
        x = Rig.game("100", "0 0");
        x.slip(1, 0);
        e.due("the last but it is ruled out", x.shout(0), 1);
        now(x, "had by shouts", 1, 0, 0, 0, 2, 1);
        e.under(19, "BEYOND.");
        e.outside(Rig::rich, 0, Edges.off(0, 6), "shout", 2);
        e.refuses(Rig::full, Due.BEYOND, "shout", 24);
        e.under(19, "NONE: there is no SLIP.");
        e.refuses(Rig::idle, Due.NONE, "shout", 2);
        e.under(19, "STATE: it isn't FITTING.");
        e.refuses(Rig::rich, Due.STATE, "shout", 3);
        e.refuses(Rig::rich, Due.STATE, "shout", 4);
        x = Rig.rich();
        e.due("shout(6), ruled out", x.shout(6), 1);
        e.due("shout(6) again", x.shout(6), Due.STATE);
    }

    private void end() {
        e.under(20, "The SLIP ends: points (60 less SECONDS, if it is HAD, else 0), which its BAND has.");
        TitleMimes x = late();
        e.due("58 seconds", x.end(), 2);
        e.due("score(1)", x.score(1), 2);
        e.due("score(0)", x.score(0), 0);
        e.due("it has ended", x.now(0), Due.NONE);
        x.slip(0, 0);
        e.due("no seconds", x.end(), 60);
        e.due("score(0), of no seconds", x.score(0), 60);
        x = late();
        x.show(5, 0);
        e.due("60 seconds", x.end(), 0);
        x = Rig.rich();
        e.due("two fit", x.end(), 0);
        e.due("score(1), two fit", x.score(1), 0);
        e.due("the slip of two is over", x.now(5), Due.NONE);
        e.under(20, "NONE.");
        e.refuses(Rig::empty, Due.NONE, "end");
        e.refuses(Rig::idle, Due.NONE, "end");
    }

    private void score() {
        e.under(21, "SCORE of a BAND.");
        e.asks(Rig::empty, 0, "score", 0);
        e.asks(Rig::rich, 60, "score", 0);
        e.asks(Rig::rich, 0, "score", 1);
        e.under(21, "BEYOND.");
        e.outside(Rig::rich, 0, Edges.off(0, 1), "score", 0);
    }
}
