/** Promises 35 to 42: minutes, evenings. */
final class EveningEdges {
    private final Edges e;

    private EveningEdges(Edges e) {
        this.e = e;
    }

    static void run(Edges e) {
        EveningEdges v = new EveningEdges(e);
        v.minute();
        v.points();
        v.had();
        v.evening();
        v.ahead();
        v.hat();
        v.unfair();
        v.seed();
    }

    /** Four titles that only WHOLE 0 parts all; band 1 doesn't know the last: COUNTING 0 will do. A slip stands. */
    private static TitleMimes four() {
        TitleMimes x = Rig.game("200 300 400 450", "0 1 2 3");
        x.know(3, 1, false);
        x.slip(1, 0);
        x.show(5, 2);
        return x;
    }

    /** Titles 0 and 1 are alike; band 1 knows title 1 alone. */
    private static TitleMimes twins() {
        TitleMimes x = Rig.game("200 300", "0 0 1");
        x.know(0, 1, false);
        x.know(2, 1, false);
        return x;
    }

    /** With title 5 SOUNDING 3 and 0, WHOLE 1 and 3 are shown: 8, 16, 37, 60 seconds. */
    private static TitleMimes toTheEnd() {
        return Rig.game("300 310 310", "0220 0000 0210 210 0212 2211 2212 2112 2100");
    }

    /** With title 3 SOUNDING 1 and 0, WHOLE 2 are shown, 38 seconds; WHOLE 3 would end at 61. */
    private static TitleMimes pastTheEnd() {
        return Rig.game("310 300 300", "2122 1012 1210 1021 0 0022 1022");
    }

    /** With title 0 WHOLE 0 and 2 are shown, 42 seconds; WHOLE 3 would end at 65, though a SIGN would part, too. */
    private static TitleMimes otherInTime() {
        return Rig.game("300 300", "110 1100 0000 0100 1101 1010 1110");
    }

    private static TitleMimes unknown() {
        TitleMimes x = four();
        for (int t = 0; t < 4; t++) {
            x.know(t, 0, false);
        }
        return x;
    }

    private void minute() {
        e.under(35, "A MINUTE by rule with a TITLE for a BAND (a SLIP that there is stays as it is): SECONDS used.");
        for (int t = 0; t < 4; t++) {
            e.asks(EveningEdges::four, 20, "minute", t, 0);
        }
        e.asks(EveningEdges::four, 5, "minute", 0, 1);
        e.asks(EveningEdges::twins, 0, "minute", 1, 1);
        e.asks(EveningEdges::twins, 5, "minute", 1, 0);
        e.asks(EveningEdges::toTheEnd, 60, "minute", 5, 0);
        e.asks(EveningEdges::pastTheEnd, 38, "minute", 3, 0);
        e.asks(EveningEdges::otherInTime, 42, "minute", 0, 0);
        e.due("no sign parts", Rig.game("200", "0 0").minute(0, 0), 0);
        bandAndTitle("minute");
        e.under(35, "STATE: that BAND doesn't KNOW it.");
        states("minute");
    }

    private void bandAndTitle(String name) {
        e.under(name.equals("minute") ? 35 : 36, "BEYOND.");
        e.outside(Rig::rich, 0, Edges.off(0, 6), name, 0, 0);
        e.outside(Rig::rich, 0, Edges.row(32, 64, -32), name, 0, 1);
        e.outside(Rig::rich, 1, Edges.off(0, 1), name, 0, 0);
        e.refuses(Rig::empty, Due.BEYOND, name, 0, 0);
        e.refuses(Rig::full, Due.BEYOND, name, 24, 0);
    }

    private void states(String name) {
        e.refuses(Rig::rich, Due.STATE, name, 4, 1);
        e.refuses(Rig::rich, Due.STATE, name, 1, 0);
        e.refuses(EveningEdges::unknown, Due.STATE, name, 0, 0);
    }

    private void points() {
        e.under(36, "Points it would bring: 60 less these, if it is HAD, else 0.");
        e.asks(EveningEdges::four, 40, "points", 3, 0);
        e.asks(EveningEdges::four, 55, "points", 0, 1);
        e.asks(EveningEdges::twins, 60, "points", 1, 1);
        e.asks(EveningEdges::twins, 0, "points", 1, 0);
        e.asks(EveningEdges::twins, 55, "points", 2, 0);
        e.asks(EveningEdges::toTheEnd, 0, "points", 5, 0);
        e.asks(EveningEdges::pastTheEnd, 0, "points", 3, 0);
        e.asks(EveningEdges::otherInTime, 0, "points", 0, 0);
        bandAndTitle("points");
        e.under(36, "STATE.");
        states("points");
    }

    private void had() {
        e.under(37, "How many of the TITLES that a BAND KNOWS are HAD by rule.");
        e.asks(Rig::empty, 0, "had", 0);
        e.asks(EveningEdges::unknown, 0, "had", 0);
        e.asks(EveningEdges::four, 4, "had", 0);
        e.asks(EveningEdges::four, 3, "had", 1);
        e.asks(EveningEdges::twins, 1, "had", 0);
        e.asks(EveningEdges::twins, 1, "had", 1);
        e.due("had at 60 seconds, too", toTheEnd().had(0), 9);
        e.due("all but the two that end past it", pastTheEnd().had(0), 5);
        e.due("the last of 24", lastAlone().had(0), 1);
        e.under(37, "BEYOND.");
        e.outside(Rig::rich, 0, Edges.off(0, 1), "had", 0);
    }

    /** 24 titles: 23 alike, and the last one. */
    private static TitleMimes lastAlone() {
        TitleMimes x = Rig.game("200 300", "");
        for (int t = 0; t < 24; t++) {
            x.title(t < 23 ? 0 : 1);
        }
        return x;
    }

    /** Band 0 knows titles 0, 2, 3, 4, 5, worth 0, 40, 37, 37, 0: 0 and 5 are alike, 3 and 4 need a SIGN, too. */
    private static TitleMimes drawing(int seed) {
        TitleMimes x = Rig.game("200 300 400 450", "0 1 2 3 30 0");
        x.know(1, 0, false);
        x.seed(seed);
        x.slip(2, 0);
        x.show(5, 0);
        return x;
    }

    private static final int[] WORTH = {0, 40, 37, 37, 0};

    private static int next(int z) {
        return (int) (z * 1103515245L + 12345L);
    }

    private static int drawn(int z) {
        return (int) ((z & 0xffffffffL) / 256);
    }

    private void evening() {
        e.under(38, "n MINUTES (1 to 12): by draws, of the TITLES that a BAND KNOWS (by numbers) that which is the rest of a draw by how many there are, played by rule: points, which it has.");
        for (int seed : new int[] {1, 0, -1, 77, Edges.LEAST, Edges.MOST, 1000000000}) {
            for (int n = 1; n <= 12; n++) {
                int z = seed;
                int want = 0;
                for (int k = 0; k < n; k++) {
                    z = next(z);
                    want += WORTH[drawn(z) % 5];
                }
                TitleMimes x = drawing(seed);
                e.due("seed " + seed + ": ahead(0, " + n + ")", x.ahead(0, n), want);
                e.due("seed " + seed + ": evening(0, " + n + ")", x.evening(0, n), want);
                e.due("score(0)", x.score(0), want);
                e.due("score(1)", x.score(1), 0);
                e.due("the slip's seconds stay", x.now(2), 2);
                e.due("the slip's title stays", x.now(0), 2);
                e.due("z", x.seed(0), z);
            }
        }
        TitleMimes x = twins();
        e.due("one minute with the only title", x.evening(1, 1), 60);
        e.due("twelve minutes with the only title", x.evening(1, 12), 720);
        e.due("score(1)", x.score(1), 780);
        e.under(38, "BEYOND.");
        e.outside(Rig::rich, 0, Edges.off(0, 1), "evening", 0, 1);
        e.outside(Rig::rich, 1, Edges.off(1, 12), "evening", 0, 1);
        e.outside(EveningEdges::unknown, 1, Edges.off(1, 12), "evening", 0, 1);
        e.under(38, "STATE: it KNOWS none.");
        e.refuses(Rig::empty, Due.STATE, "evening", 0, 1);
        e.refuses(EveningEdges::unknown, Due.STATE, "evening", 0, 12);
        e.due("the other band knows some", unknown().evening(1, 1), 55);
    }

    private void ahead() {
        e.under(39, "What that would bring (nothing changes, z neither).");
        e.asks(() -> drawing(next(1)), WORTH[drawn(next(next(1))) % 5], "ahead", 0, 1);
        e.asks(EveningEdges::twins, 60, "ahead", 1, 1);
        e.asks(EveningEdges::twins, 720, "ahead", 1, 12);
        TitleMimes x = Rig.rich();
        e.due("as the evening then", x.ahead(0, 12), x.evening(0, 12));
        e.under(39, "BEYOND.");
        e.outside(Rig::rich, 0, Edges.off(0, 1), "ahead", 0, 1);
        e.outside(Rig::rich, 1, Edges.off(1, 12), "ahead", 0, 1);
        e.outside(EveningEdges::unknown, 1, Edges.off(1, 12), "ahead", 0, 1);
        e.under(39, "STATE.");
        e.refuses(Rig::empty, Due.STATE, "ahead", 0, 1);
        e.refuses(EveningEdges::unknown, Due.STATE, "ahead", 0, 12);
    }

    /** Both bands know 0 and 3: band 0 has each in 20 seconds, band 1 in 4. */
    private static TitleMimes bothTwo() {
        TitleMimes x = Rig.game("200 300 400 450", "0 1 2 3");
        x.know(1, 1, false);
        x.know(2, 1, false);
        return x;
    }

    /** Besides a title 4 as 0: these two are had no more, 3 as before. */
    private static TitleMimes bothThree() {
        TitleMimes x = bothTwo();
        x.title(0);
        return x;
    }

    /** 24 alike; both bands know the last n, the first ones that band alone. */
    private static TitleMimes bothLast(int n, int band) {
        TitleMimes x = Rig.game("200", "");
        for (int t = 0; t < 24; t++) {
            x.title(0);
            x.know(t, 1 - band, t >= 24 - n);
        }
        return x;
    }

    private void hat() {
        e.under(40, "The set of just n TITLES (1 to 4) that both BANDS KNOW that brings both BANDS together most points() (both BANDS of each): of several the least set.");
        e.asks(EveningEdges::bothTwo, 1, "hat", 1);
        e.asks(EveningEdges::bothTwo, 9, "hat", 2);
        e.asks(EveningEdges::bothThree, 8, "hat", 1);
        e.asks(EveningEdges::bothThree, 9, "hat", 2);
        e.asks(EveningEdges::bothThree, 25, "hat", 3);
        for (int n = 1; n <= 4; n++) {
            e.due("just as many: hat(" + n + ")", bothLast(n, 0).hat(n), (1 << n) - 1 << 24 - n);
            e.due("just as many for band 0: hat(" + n + ")", bothLast(n, 1).hat(n), (1 << n) - 1 << 24 - n);
            e.due("the least of many: hat(" + n + ")", bothLast(24, 0).hat(n), (1 << n) - 1);
        }
        // Title 0 brings 0 and 51, titles 3 and 4 bring 37 and 53, title 2 brings band 0 40 and is not for both.
        TitleMimes x = drawing(1);
        x.know(5, 1, false);
        x.know(2, 1, false);
        e.due("points together: hat(1)", x.hat(1), 8);
        e.due("points together: hat(2)", x.hat(2), 24);
        e.due("points together: hat(3)", x.hat(3), 25);
        e.due("of both bands, not of band 0 alone", hadByOne(1).hat(1), 2);
        e.due("of both bands, not of band 1 alone", hadByOne(0).hat(1), 2);
        e.under(40, "BEYOND.");
        e.outside(Rig::rich, 0, Edges.off(1, 4), "hat", 1);
        e.outside(Rig::empty, 0, Edges.off(1, 4), "hat", 1);
        e.under(40, "NONE: there are not so many.");
        for (int n = 1; n <= 4; n++) {
            int fewer = n - 1;
            e.refuses(() -> bothLast(fewer, 0), Due.NONE, "hat", n);
            e.refuses(() -> bothLast(fewer, 1), Due.NONE, "hat", n);
            e.refuses(Rig::empty, Due.NONE, "hat", n);
        }
    }

    /** Each title has one alike; just the band that doesn't know 3 has title 1, in 5 seconds. */
    private static TitleMimes hadByOne(int band) {
        TitleMimes x = Rig.game("200 300", "0 1 0 1");
        x.know(3, band, false);
        return x;
    }

    private void unfair() {
        e.under(41, "The TITLE that both KNOW of which points() of the two BANDS differ most.");
        e.asks(EveningEdges::bothTwo, 0, "unfair");
        e.asks(EveningEdges::bothThree, 3, "unfair");
        e.asks(EveningEdges::twins, 1, "unfair");
        e.due("none differ: the least that both know", bothLast(3, 0).unfair(), 21);
        e.due("just the last one", bothLast(1, 0).unfair(), 23);
        e.due("just the last one for band 0", bothLast(1, 1).unfair(), 23);
        TitleMimes x = drawing(1);
        x.know(5, 1, false);
        x.know(2, 1, false);
        e.due("51 more for band 1", x.unfair(), 0);
        e.due("title 1 alone differs, for band 1", hadByOne(1).unfair(), 1);
        e.due("title 1 alone differs, for band 0", hadByOne(0).unfair(), 1);
        e.under(41, "NONE: there is none.");
        e.refuses(Rig::empty, Due.NONE, "unfair");
        e.refuses(EveningEdges::unknown, Due.NONE, "unfair");
        e.refuses(() -> bothLast(0, 0), Due.NONE, "unfair");
        e.refuses(() -> bothLast(0, 1), Due.NONE, "unfair");
        e.refuses(EveningEdges::oneEach, Due.NONE, "unfair");
    }

    private static TitleMimes oneEach() {
        TitleMimes x = Rig.game("200 300", "0 1");
        x.know(0, 0, false);
        x.know(1, 1, false);
        return x;
    }

    private void seed() {
        e.under(42, "z becomes v: what it was.");
        TitleMimes x = new TitleMimes();
        int was = 1;
        for (int v : new int[] {0, -1, Edges.LEAST, Edges.MOST, Due.BEYOND, Due.SIZE, 5}) {
            e.due("seed(" + v + ")", x.seed(v), was);
            e.due("count(5)", x.count(5), v);
            was = v;
        }
        e.due("no finding", x.status(-1), 0);
        e.due("z of the rich object", Rig.rich().seed(0), -5);
    }
}
