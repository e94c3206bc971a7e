/** How long an object is used; the section "Terms": findings and their order, points 1 to 3. */
final class TermsEdges {
    private static final int ALL = (1 << 24) - 1;
    private final Edges e;

    private TermsEdges(Edges e) {
        this.e = e;
    }

    static void run(Edges e) {
        TermsEdges t = new TermsEdges(e);
        t.calls();
        t.findings();
        t.order();
        t.setsAndQuotients();
        t.words();
        t.titles();
        t.kinds();
        t.tells();
        t.takes();
        t.slips();
        t.parts();
        t.minutes();
        t.draws();
        t.tape();
        t.items();
        t.faults();
        t.itsOwn();
        t.spotsAndSheets();
    }

    private void under(String words) {
        e.under(Edges.TERMS, words);
    }

    private void calls() {
        e.under(Edges.USE, "An object is used for at most 512 calls after it has been made; what later calls answer is free.");
        TitleMimes x = new TitleMimes();
        for (int k = 1; k < 512; k++) {
            x.known(2);
        }
        e.due("the 512th call", x.status(0), 511);
        x = Rig.game("600 300", "01");
        for (int k = 4; k < 510; k++) {
            x.evening(0, 12);
        }
        e.due("the 511th call", x.score(0), 506 * 720);
        e.due("the 512th call", x.length(0), 9);
    }

    private void findings() {
        under("FINDINGS are answers below -1000000: LOW is -1000001; LOW BEYOND, LOW - 1 FULL, LOW - 2 KIND, LOW - 3 NONE, LOW - 4 STATE, LOW - 5 MISSING, LOW - 6 SIZE.");
        TitleMimes x = Rig.full();
        x.hold(0, 0);
        x.know(0, 0, false);
        e.due("BEYOND", x.known(2), -1000001);
        e.due("FULL", x.word(1, 0, 0), -1000002);
        e.due("KIND", x.as(0, 1), -1000003);
        e.due("NONE", x.end(), -1000004);
        e.due("STATE", x.slip(0, 0), -1000005);
        e.due("MISSING", x.load(0), -1000006);
        e.due("SIZE", x.sheet(0, 8, -1), -1000007);
        e.due("status(-1)", x.status(-1), 7);
        for (int which = 0; which < 7; which++) {
            e.due("status(" + which + ")", x.status(which), 1);
        }
        under("What seed() and count(5) tell, z, may be any int: that is no finding.");
        for (int v : new int[] {Edges.LEAST, -1000008, -1000007, -1000004, -1000001, -1000000, Edges.MOST}) {
            x = new TitleMimes();
            x.seed(v);
            e.due("count(5)", x.count(5), v);
            e.due("seed(0)", x.seed(0), v);
            e.due("status(-1)", x.status(-1), 0);
        }
    }

    /** Calls to which more than one finding would do: the one that is asked first is told. */
    private void order() {
        under("Each act tells its findings in the order in which they are asked (that of its words); one that answers a finding changes nothing but status().");
        e.refuses(Rig::full, Due.BEYOND, "word", 0, 0, 0);
        e.refuses(Rig::full, Due.BEYOND, "word", 1, 10, 0);
        e.refuses(Rig::full, Due.BEYOND, "word", 1, 0, -1);
        e.refuses(Rig::full, Due.BEYOND, "title", -1);
        e.refuses(Rig::full, Due.BEYOND, "more", 23, 16);
        e.refuses(Rig::full, Due.BEYOND, "more", 24, 0);
        e.refuses(Rig::rich, Due.BEYOND, "ith", 0, 4);
        e.refuses(Rig::rich, Due.BEYOND, "slip", 7, 1);
        e.refuses(Rig::rich, Due.BEYOND, "slip", 4, 2);
        e.refuses(Rig::idle, Due.BEYOND, "show", 7, 0);
        e.refuses(Rig::idle, Due.BEYOND, "show", 0, 4);
        e.refuses(Rig::idle, Due.BEYOND, "now", 6);
        e.refuses(Rig::idle, Due.BEYOND, "shout", 7);
        e.refuses(Rig::empty, Due.BEYOND, "shout", 0);
        e.refuses(Rig::empty, Due.BEYOND, "quick", 1, 0);
        e.refuses(Rig::rich, Due.BEYOND, "quick", 0, -1);
        e.refuses(Rig::empty, Due.BEYOND, "hardest", 1);
        e.refuses(Rig::rich, Due.BEYOND, "minute", 4, 2);
        e.refuses(Rig::rich, Due.BEYOND, "points", 4, 2);
        e.refuses(Rig::empty, Due.BEYOND, "evening", 0, 0);
        e.refuses(Rig::empty, Due.BEYOND, "evening", 2, 1);
        e.refuses(Rig::empty, Due.BEYOND, "ahead", 0, 13);
        e.refuses(Rig::empty, Due.BEYOND, "ahead", -1, 1);
        e.refuses(Rig::empty, Due.BEYOND, "hat", 5);
        e.refuses(Rig::full, Due.BEYOND, "feed", 0, 5);
        e.refuses(Rig::full, Due.BEYOND, "feed", 0, 0);
        e.refuses(Rig::empty, Due.BEYOND, "as", 0, 7);
        e.refuses(Rig::rich, Due.BEYOND, "as", 10, 6);
        e.refuses(Rig::rich, Due.BEYOND, "sheet", 4, 8, -1);
        e.refuses(Rig::rich, Due.BEYOND, "sheet", 0, 9, -1);
        e.refuses(Rig::rich, Due.BEYOND, "write", 4, -1, 0);
        e.refuses(Rig::rich, Due.MISSING, "write", 3, -1, 0);
        e.refuses(Rig::rich, Due.BEYOND, "copy", 3, 0, 4, 0, 0);
        e.refuses(Rig::rich, Due.BEYOND, "copy", -1, 0, 3, 0, 0);
        e.refuses(Rig::rich, Due.MISSING, "copy", 3, 0, 0, 0, 1);
        e.refuses(Rig::rich, Due.MISSING, "copy", 0, -1, 3, 0, 1);
        e.refuses(Rig::rich, Due.KIND, "copy", 0, -1, 1, 0, 0);
        e.refuses(Rig::rich, Due.KIND, "copy", 0, 0, 2, 0, 9);
    }

    private void setsAndQuotients() {
        under("Quotients are cut.");
        e.due("SOUND 4 POINTED", Rig.game("140", "0").tells(4, 0, 0), 1);
        e.due("SOUND 1 POINTED", Rig.game("110", "0").tells(4, 0, 0), 0);
        under("Sets are told as bits; of several that would do the least number counts, where nothing else is told.");
        e.due("titles 0 and 23", Rig.full().ofSize(4) | 1, 1 << 23 | 1);
        e.due("the set of all", Rig.full().known(0), ALL);
        e.due("words 0 and 1", Rig.full().sense(0), 3);
        e.due("like: of 1 and 2", Rig.game("200 300 100", "").like(0), 1);
        e.due("rare: of all places", Rig.game("200 300 400 500", "3210").rare(0), 0);
        e.due("hardest: of 0 and 1", Rig.game("200 300", "0 1").hardest(3), 0);
        e.due("unfair: of 0 and 1", Rig.game("200 300", "0 1").unfair(), 0);
        e.due("hat: of 0 and 1", Rig.game("200 300", "0 1").hat(1), 1);
        e.due("best: of SMALL 0 to 3", Rig.game("200 300", "0 1").best(1), 20);
        e.due("two: of all", Rig.game("200 300", "0 1").two(1), 1);
    }

    private void words() {
        under("WORDS 0, 1, .. (at most 16), each with SYLLABLES (1 to 6), SOUND (0 to 9), SENSE (0 to 9).");
        TitleMimes x = new TitleMimes();
        for (int w = 0; w < 16; w++) {
            e.due("WORD " + w, x.word(1 + w % 6, w % 10, 9 - w % 10), w);
        }
        for (int w = 0; w < 16; w++) {
            e.due("SYLLABLES of " + w, x.wordOf(w, 0), 1 + w % 6);
            e.due("SOUND of " + w, x.wordOf(w, 1), w % 10);
            e.due("SENSE of " + w, x.wordOf(w, 2), 9 - w % 10);
        }
        e.due("a 17th by word()", x.word(1, 0, 0), Due.FULL);
        e.reads(x, "word 1", -1);
        e.due("count(0)", x.count(0), 16);
        x = new TitleMimes();
        e.due("SYLLABLES 0", x.word(0, 0, 0), Due.BEYOND);
        e.due("SYLLABLES 7", x.word(7, 0, 0), Due.BEYOND);
        e.due("SOUND -1", x.word(1, -1, 0), Due.BEYOND);
        e.due("SOUND 10", x.word(1, 10, 0), Due.BEYOND);
        e.due("SENSE -1", x.word(1, 0, -1), Due.BEYOND);
        e.due("SENSE 10", x.word(1, 0, 10), Due.BEYOND);
    }

    private void titles() {
        under("TITLES 0, 1, .. (at most 24), each a row of 1 to 4 WORDS (one may come again), KNOWN to BAND 0 or 1, to both, or to neither (to both at first).");
        TitleMimes x = Rig.game("100 200", "");
        for (int t = 0; t < 24; t++) {
            e.due("TITLE " + t, x.title(t % 2), t);
        }
        e.due("a 25th by title()", x.title(0), Due.FULL);
        e.reads(x, "title 0", -1);
        e.due("count(1)", x.count(1), 24);
        for (int n = 2; n <= 4; n++) {
            e.due("one comes again", x.more(23, 1), n);
        }
        e.due("a fifth", x.more(23, 0), Due.FULL);
        e.due("known(0) at first", x.known(0), ALL);
        e.due("known(1) at first", x.known(1), ALL);
        x.know(0, 0, false);
        e.due("to band 1 alone: known(0)", x.known(0), ALL - 1);
        e.due("to band 1 alone: known(1)", x.known(1), ALL);
        x.know(0, 1, false);
        e.due("to neither", x.known(0) | x.known(1), ALL - 1);
        x.know(0, 0, true);
        e.due("to band 0 alone: known(0)", x.known(0), ALL);
        e.due("to band 0 alone: known(1)", x.known(1), ALL - 1);
    }

    private void kinds() {
        under("SIGNS are of KINDS: 0 SIGN; 1 COUNTING, 2 SOUNDING, 5 SMALL under SIGN; 3 ACTED under COUNTING; 4 POINTED under SOUNDING; 6 WHOLE under SMALL; each KIND for each place i (0 to 3).");
        // Bits of the kinds that each kind is of.
        int[] of = {1, 1 | 2, 1 | 4, 1 | 2 | 8, 1 | 4 | 16, 1 | 32, 1 | 32 | 64};
        TitleMimes x = new TitleMimes();
        for (int sign = 0; sign < 28; sign++) {
            x.hold(0, sign);
            for (int kind = 0; kind < 7; kind++) {
                boolean is = (of[sign / 4] >> kind & 1) == 1;
                e.due("SIGN " + sign + " as " + kind, x.as(0, kind), is ? sign % 4 : Due.KIND);
            }
        }
        e.due("no SIGN 28", x.hold(0, 28), Due.BEYOND);
        e.due("no KIND 7", x.takes(7, 0), Due.BEYOND);
        e.due("no place 4", x.takes(0, 4), Due.BEYOND);
        e.due("no place -1", x.takes(0, -1), Due.BEYOND);
    }

    /** What a KIND tells of the places 0 to 3 of a title of the words 0 to 3, and of one of word 0 alone. */
    private void told(int kind, int... want) {
        TitleMimes x = Rig.game("100 211 322 699", "0123 0");
        for (int i = 0; i < 4; i++) {
            e.due("of place " + i, x.tells(kind, i, 0), want[i]);
            int alone = kind == 0 ? 1 : i == 0 ? want[0] : 0;
            e.due("of place " + i + " of one word", x.tells(kind, i, 1), alone);
        }
    }

    private void tells() {
        under("TELLS (a number, of a TITLE): SIGN: how many WORDS it has.");
        told(0, 4, 4, 4, 4);
        under("COUNTING: SYLLABLES of its i-th WORD (0 if there is none).");
        told(1, 1, 2, 3, 6);
        under("ACTED: as a COUNTING one tells, and 10 times SENSE of that WORD (0 if there is none).");
        told(3, 1, 12, 23, 96);
        under("SOUNDING: SOUND of its i-th WORD, and 1 (0 if there is none).");
        told(2, 1, 2, 3, 10);
        under("POINTED: as a SOUNDING one, by 3 (cut).");
        told(4, 0, 0, 1, 3);
        for (int sound = 0; sound < 10; sound++) {
            TitleMimes x = new TitleMimes();
            x.title(x.word(1, sound, 0));
            e.due("SOUND " + sound, x.tells(4, 0, 0), new int[] {0, 0, 1, 1, 1, 2, 2, 2, 3, 3}[sound]);
        }
        under("SMALL: 1 if its i-th WORD has 1 SYLLABLE, else 0.");
        told(5, 1, 0, 0, 0);
        under("WHOLE: the number of its i-th WORD, and 1 (0 if there is none).");
        told(6, 1, 2, 3, 4);
        e.due("WORD 15", Rig.full().tells(6, 0, 15), 16);
    }

    private void took(int kind, int at0, int at3) {
        TitleMimes x = new TitleMimes();
        e.due("takes(" + kind + ", 0)", x.takes(kind, 0), at0);
        e.due("takes(" + kind + ", 3)", x.takes(kind, 3), at3);
        x = Rig.game("100", "0");
        x.slip(0, 0);
        x.show(kind, 3);
        e.due("SECONDS after it", x.now(2), at3);
    }

    private void takes() {
        under("TAKES (seconds): SIGN: 3.");
        took(0, 3, 3);
        under("COUNTING: as a SIGN, and 2.");
        took(1, 5, 5);
        under("ACTED: as a COUNTING one, and 7.");
        took(3, 12, 12);
        under("SOUNDING: as a SIGN, and 5.");
        took(2, 8, 8);
        under("POINTED: half of what a SOUNDING one does (cut).");
        took(4, 4, 4);
        under("SMALL: as a SIGN, less 1.");
        took(5, 2, 2);
        under("WHOLE: 20, and i.");
        took(6, 20, 23);
    }

    private void slips() {
        under("A SLIP: a TITLE (or none: at first), played for a BAND, with SECONDS used and how many SIGNS were shown (0 as it begins), and FITTING, a set of TITLES: as it begins those that the BAND KNOWS; each SIGN shown leaves of it those of which it TELLS, then, what it does of the SLIP's; shouts rule out.");
        e.due("none at first", new TitleMimes().now(0), Due.NONE);
        TitleMimes x = Rig.rich();
        x.slip(0, 1);
        int[] begun = {0, 1, 0, 0, 111, 0};
        for (int what = 0; what < 6; what++) {
            e.due("now(" + what + ")", x.now(what), begun[what]);
        }
        x.know(0, 1, false);
        x.know(4, 1, true);
        x.title(0);
        e.due("those that it knew as it began", x.now(4), 111);
        x.change(1, 0, 1);
        e.due("what it tells then: SMALL 0 of 0 to 3", x.show(5, 0), 4);
        x.change(1, 0, 2);
        e.due("SMALL 0 again, of what is left", x.show(5, 0), 2);
        e.due("FITTING", x.now(4), 5);
        e.due("a shout rules out", x.shout(2), 1);
        e.due("FITTING then", x.now(4), 1);
        under("HAD: just one is FITTING.");
        x = Rig.game("200 300", "0 1 0");
        x.slip(1, 0);
        e.due("three fit", x.now(5), 0);
        x.shout(2);
        e.due("two fit", x.now(5), 0);
        x.shout(0);
        e.due("one fits", x.now(5), 1);
        under("A minute has 60 seconds.");
        x = Rig.game("100", "0");
        x.slip(0, 0);
        for (int k = 0; k < 20; k++) {
            x.show(0, 0);
        }
        e.due("20 SIGNS", x.now(2), 60);
        e.due("no further one", x.show(5, 0), Due.STATE);
    }

    private void parts() {
        TitleMimes x = Rig.game("200 300 400", "0 0 0 1 1 2");
        under("PARTS of a set by a SIGN: TITLES of it of which it TELLS the same are one part.");
        e.due("3 2 1", x.parts(1, 0, 63), 3);
        e.due("3 and 1", x.parts(1, 0, 7 | 32), 2);
        e.due("of none", x.parts(1, 0, 0), 0);
        under("WORST: how many are in the greatest part.");
        e.due("3 2 1", x.worst(1, 0, 63), 3);
        e.due("the greatest last", x.worst(1, 0, 1 | 8 | 16), 2);
        e.due("of none", x.worst(1, 0, 0), 0);
        under("THE SUM: that of the squares of how many are in each.");
        e.due("3 2 1", x.sum(1, 0, 63), 14);
        e.due("1 2", x.sum(1, 0, 1 | 8 | 16), 5);
        e.due("of none", x.sum(1, 0, 0), 0);
        under("Signs go by KIND, then by place: number 4 times KIND and i.");
        x = Rig.game("200 300", "00 10 01");
        e.due("COUNTING 0", x.best(3), 4);
        e.due("COUNTING 1", x.best(5), 5);
        e.due("WHOLE 3", Rig.game("200 200", "0000 0001").best(3), 27);
        x.hold(0, 27);
        e.due("27 is WHOLE 3", x.as(0, 6), 3);
    }

    private void minutes() {
        under("A MINUTE by rule: as long as more than one is FITTING and the next SIGN ends within 60 seconds, that of least WORST (of several that which TAKES least, then the least number) is shown, if its WORST is less than how many are FITTING; else it ends.");
        e.due("just one is FITTING", Rig.game("200", "0").minute(0, 0), 0);
        e.due("its WORST isn't less", Rig.game("200", "0 0").minute(0, 0), 0);
        e.due("that which TAKES least", Rig.game("210 220", "0 1").minute(0, 0), 4);
        e.due("least WORST before what TAKES least", Rig.game("200 300 400 450", "0 1 2 3").minute(0, 0), 20);
        TitleMimes x = Rig.game("300 310 310", "0220 0000 0210 210 0212 2211 2212 2112 2100");
        e.due("the next SIGN ends at 60", x.minute(5, 0), 60);
        e.due("it is HAD by it", x.had(0), 9);
        x = Rig.game("310 300 300", "2122 1012 1210 1021 0 0022 1022");
        e.due("the next SIGN would end at 61", x.minute(3, 0), 38);
        x = Rig.game("300 300", "110 1100 0000 0100 1101 1010 1110");
        e.due("the next SIGN is that of all", x.minute(0, 0), 42);
        under("SCORE of a BAND: its points (0 at first; of a SLIP that is HAD 60 less SECONDS).");
        x = Rig.game("200 300", "0 1");
        e.due("score(0) at first", x.score(0), 0);
        e.due("score(1) at first", x.score(1), 0);
        x.slip(0, 1);
        x.show(1, 0);
        x.end();
        e.due("score(1)", x.score(1), 55);
        x.slip(0, 1);
        x.show(0, 0);
        x.end();
        e.due("score(1), not HAD", x.score(1), 55);
        e.due("score(0)", x.score(0), 0);
    }

    /** Titles 0 to 6 are alike, title 7 is had in 5 seconds; the one drawn is known by its points. */
    private static TitleMimes eight() {
        return Rig.game("200 300", "0 0 0 0 0 0 0 1");
    }

    private void draws() {
        under("DRAWS: z is told (1 at first); each makes it z * 1103515245 + 12345 (an int), and gives z >>> 8.");
        TitleMimes x = eight();
        e.due("z at first", x.count(5), 1);
        x.evening(0, 1);
        e.due("z then", x.count(5), 1103527590);
        x.evening(0, 1);
        e.due("z wraps around", x.count(5), -1770082073);
        for (int k = 0; k < 200; k++) {
            x = eight();
            x.know(0, 0, k % 2 == 0);
            int titles = k % 2 == 0 ? 8 : 7;
            int seed = k * 21474836 - Edges.MOST;
            x.seed(seed);
            long next = seed * 1103515245L + 12345L & 0xffffffffL;
            boolean isLast = next / 256 % titles == titles - 1;
            e.due("seed " + seed + ", " + titles + " titles", x.evening(0, 1), isLast ? 55 : 0);
            e.due("seed " + seed + ": z", x.count(5), (int) next);
        }
    }

    private void tape() {
        under("A TEXT is read from THE TAPE (bytes, at most 120).");
        TitleMimes x = new TitleMimes();
        e.reads(x, "word 1" + " ".repeat(106) + ";title 0", 2);
        String full = "word" + " ".repeat(97) + " 1 sound 2 sense 3";
        e.reads(x, full, 1);
        e.due("SENSE at the 119th byte", x.wordOf(1, 2), 3);
        e.reads(x, full + "4", -1 - 118);
        x = new TitleMimes();
        e.reads(x, " " + full, 1);
        e.due("SENSE at the 120th byte", x.wordOf(0, 2), 3);
        Due.feed(x, " " + full);
        e.due("a 121st byte", x.feed(' ', 1), Due.FULL);
        e.due("text() of 120", x.text(), 1);
        tokens();
    }

    private void tokens() {
        under("TOKENS, each as long as can be: WORDS OF IT (letters a to z), NUMBERS (digits, 999 at most), SIGN ; ; blanks may stand between.");
        TitleMimes x = new TitleMimes();
        e.reads(x, "word1sound2sense3;title0 0;only0 1", 3);
        e.reads(x, " word  1  ;  title  1  ", 2);
        e.due("ith(1, 0)", x.ith(1, 0), 1);
        e.faults(Rig::empty, "words 1", 0);
        e.faults(Rig::empty, "wordsound 1", 0);
        e.faults(Rig::empty, "worda 1", 0);
        e.faults(Rig::empty, "wordz 1", 0);
        e.faults(Rig::empty, "aword 1", 0);
        e.faults(Rig::empty, "zword 1", 0);
        e.faults(Rig::empty, "wor d 1", 0);
        e.faults(Rig::empty, "word 12", 5);
        e.faults(Rig::empty, "word 1 2", 7);
        e.faults(Rig::rich, "title 01 2 3 12", 13);
        e.faults(Rig::rich, "title 999", 6);
        e.faults(Rig::rich, "title 1000", 6);
        e.faults(Rig::rich, "title 0 4294967296", 8);
        e.faults(Rig::rich, "title 99999999999999999999999999999999", 6);
        e.faults(Rig::rich, "title 18446744073709551616 0", 6);
        e.reads(x, "word 000000000000000000000006", 1);
        e.due("leading zeros", x.wordOf(2, 0), 6);
        for (int b = 0; b < 256; b++) {
            boolean isDigit = b >= '0' && b <= '9';
            int behind = b == ' ' ? 1 : b == ';' ? -1 - 7 : isDigit ? -1 - 5 : -1 - 6;
            e.reads(Rig.empty(), "word 1" + (char) b, behind);
            e.reads(Rig.empty(), (char) b + "word 1", b == ' ' ? 1 : -1);
            boolean isLetter = b >= 'a' && b <= 'z';
            e.reads(Rig.empty(), "word" + (char) b + "9", isLetter ? -1 : b == ' ' ? -1 - 5 : -1 - 4);
        }
        for (char c : "`{/:@[AZ\t\n\r,.-_".toCharArray()) {
            e.faults(Rig::empty, "word " + c, 5);
            e.faults(Rig::empty, "word 1;" + c, 7);
        }
    }

    private void items() {
        under("TEXT: ITEM { ; ITEM }.");
        e.faults(Rig::rich, "", 0);
        e.faults(Rig::rich, ";", 0);
        e.faults(Rig::rich, ";word 1", 0);
        e.faults(Rig::rich, "word 1;", 7);
        e.faults(Rig::rich, "word 1;;word 1", 7);
        e.faults(Rig::rich, "word 1 word 1", 7);
        e.faults(Rig::rich, "title 0 title 1", 8);
        e.faults(Rig::rich, "only 0 1 only 1 0", 9);
        e.reads(new TitleMimes(), "word 1", 1);
        e.reads(new TitleMimes(), "word 1;word 1", 2);
        under("ITEM: word, a NUMBER (SYLLABLES, 1 to 6), perhaps sound and a NUMBER (0 to 9; 0 without), perhaps sense and a NUMBER (0 to 9; 0 without): a new WORD; title, 1 to 4 NUMBERS (WORDS there by then): a new TITLE; only, a NUMBER (a TITLE there by then), a NUMBER (0 or 1): just that BAND knows it.");
        String[] texts = {"word 1", "word 6 sound 0", "word 2 sense 0", "word 3 sound 9 sense 9", "word 4 sound 9", "word 5 sense 9"};
        int[][] words = {{1, 0, 0}, {6, 0, 0}, {2, 0, 0}, {3, 9, 9}, {4, 9, 0}, {5, 0, 9}};
        TitleMimes x = new TitleMimes();
        for (int w = 0; w < 6; w++) {
            e.reads(x, texts[w], 1);
            for (int what = 0; what < 3; what++) {
                e.due(texts[w] + ": " + what, x.wordOf(w, what), words[w][what]);
            }
        }
        e.reads(x, "title 5;title 5 4;title 5 4 3;title 5 4 3 5", 4);
        for (int n = 1; n <= 4; n++) {
            e.due("ofSize(" + n + ")", x.ofSize(n), 1 << n - 1);
        }
        e.due("ith(3, 3)", x.ith(3, 3), 5);
        e.reads(x, "word 1;title 6;only 4 0;only 0 1", 4);
        e.due("known(0)", x.known(0), 30);
        e.due("known(1)", x.known(1), 15);
        e.reads(x, "only 0 0;only 4 0;only 4 1", 3);
        e.due("known(0) then", x.known(0), 15);
        e.due("known(1) then", x.known(1), 30);
        x.know(1, 0, false);
        x.know(1, 1, false);
        e.reads(x, "only 1 1", 1);
        e.due("which neither knew", x.known(1), 30);
        numbers();
    }

    /** Each NUMBER of an ITEM just outside of what it may be, for the rich object: 4 words, 7 titles. */
    private void numbers() {
        for (String number : new String[] {"0", "7", "10", "x", ";", ""}) {
            e.faults(Rig::rich, "word " + number, 5);
        }
        for (String number : new String[] {"10", "999", "x", ";", "sense", ""}) {
            e.faults(Rig::rich, "word 1 sound " + number, 13);
            e.faults(Rig::rich, "word 1 sense " + number, 13);
            e.faults(Rig::rich, "word 1 sound 1 sense " + number, 21);
        }
        e.faults(Rig::rich, "word 1 sense 1 sound 1", 15);
        e.faults(Rig::rich, "word 1 sound 1 sound 1", 15);
        e.faults(Rig::rich, "word sound 1", 5);
        for (String number : new String[] {"4", "16", "x", ""}) {
            e.faults(Rig::rich, "title " + number, 6);
            if (!number.isEmpty()) {
                e.faults(Rig::rich, "title 0 " + number, 8);
                e.faults(Rig::rich, "title 0 1 2 " + number, 12);
            }
        }
        e.faults(Rig::rich, "title 0 1 2 3 0", 14);
        e.faults(Rig::rich, "title 4;word 1", 6);
        e.faults(Rig::empty, "title 0", 6);
        for (String number : new String[] {"7", "24", "x", ";", ""}) {
            e.faults(Rig::rich, "only " + number, 5);
        }
        e.faults(Rig::rich, "only 7 0;title 0", 5);
        e.faults(Rig::empty, "only 0 0", 5);
        for (String number : new String[] {"2", "10", "x", ";", ""}) {
            e.faults(Rig::rich, "only 0 " + number, 7);
        }
    }

    private void faults() {
        under("FAULT: the place (from 0) of the first byte of the first TOKEN that can't stand there (a NUMBER that isn't as told, another WORD OF IT, a byte that begins no TOKEN, word for a 17th WORD, title for a 25th TITLE: its own), or how many bytes there are if it ends too early.");
        e.faults(Rig::rich, "7", 0);
        e.faults(Rig::rich, "   wrd", 3);
        e.faults(Rig::rich, "sound 1", 0);
        e.faults(Rig::rich, "word   007  ", 7);
        e.faults(Rig::rich, "word 1 sounds 3", 7);
        e.faults(Rig::rich, "word 1 title 0", 7);
        e.faults(Rig::rich, "word 1 ?", 7);
        e.faults(Rig::rich, "word 8;word ?", 5);
        e.faults(Rig::rich, "word", 4);
        e.faults(Rig::rich, "word   ", 7);
        e.faults(Rig::rich, "word 1 sound", 12);
        e.faults(Rig::rich, "word 1 sound 2 sense  ", 22);
        e.faults(Rig::rich, "title", 5);
        e.faults(Rig::rich, "only", 4);
        e.faults(Rig::rich, "only 0", 6);
        e.faults(Rig::rich, "word 1;  ", 9);
        for (String name : new String[] {"wor", "xord", "wxrd", "woxd", "worx", "words", "wword", "wd", "item", "nly"}) {
            e.faults(Rig::rich, name + " 1", 0);
        }
        for (String name : new String[] {"xound", "soun", "sounx", "ound", "xense", "sens", "sensx", "ense", "word"}) {
            e.faults(Rig::rich, "word 1 " + name + " 1", 7);
        }
        for (String name : new String[] {"xitle", "titl", "titlx", "xnly", "onl", "onlx", "titleonly"}) {
            e.faults(Rig::rich, name + " 0 1", 0);
        }
    }

    private void itsOwn() {
        Rig fifteen = () -> Rig.game("100 100 100 100 100 100 100 100 100 100 100 100 100 100 100", "");
        e.reads(fifteen.build(), "word 6 sound 9 sense 9", 1);
        e.faults(fifteen, "word 1;word 1", 7);
        e.faults(fifteen, "word 1; word", 8);
        e.faults(fifteen, "word 1;word 9", 7);
        e.faults(fifteen, "word 1;title 15;title 16", 22);
        e.faults(Rig::full, "word", 0);
        Rig more = () -> known23();
        e.reads(more.build(), "title 0;only 23 1", 2);
        e.faults(more, "title 0;title 0", 8);
        e.faults(more, "title 0;  title", 10);
        e.faults(more, "title 0;title 9", 8);
        e.faults(more, "title 0;only 24 1", 13);
        e.faults(Rig::full, "title", 0);
        e.reads(Rig.full(), "only 0 1;only 23 0", 2);
    }

    private static TitleMimes known23() {
        TitleMimes x = Rig.game("100", "");
        for (int t = 0; t < 23; t++) {
            x.title(0);
        }
        return x;
    }

    private void spotsAndSheets() {
        under("SPOTS 0 to 9 hold a SIGN or nothing (at first).");
        TitleMimes x = new TitleMimes();
        for (int spot = 0; spot < 10; spot++) {
            e.due("nothing at first", x.as(spot, 0), Due.MISSING);
            e.due("hold(" + spot + ", 4)", x.hold(spot, 4 + spot % 4), 1);
        }
        for (int spot = 0; spot < 10; spot++) {
            e.due("as(" + spot + ", 1)", x.as(spot, 1), spot % 4);
        }
        e.due("no SPOT 10", x.hold(10, 4), Due.BEYOND);
        e.due("no SPOT -1", x.hold(-1, 4), Due.BEYOND);
        under("SHEETS 0 to 3: rows of at most 40 numbers of 8, 16 or 32 bits (told with their sign: of 8 bits 255 is -1), or MISSING (at first).");
        for (int s = 0; s < 4; s++) {
            e.due("MISSING at first", x.load(s), Due.MISSING);
            e.due("40 numbers", x.sheet(s, 8, 40), 40);
            e.due("41 numbers", x.sheet(s, 8, 41), Due.BEYOND);
            x.write(s, 0, 255);
            e.due("255 is no SIGN", x.judge(s), Due.STATE);
        }
        e.due("no sheet 4", x.sheet(4, 8, 1), Due.BEYOND);
        e.due("no sheet -1", x.sheet(-1, 8, 1), Due.BEYOND);
        x = Rig.game("100", "");
        for (int bits = 8; bits <= 16; bits += 8) {
            x.sheet(0, bits, 1);
            x.write(0, 0, (1 << bits) - 1);
            e.due("with its sign: no SENSE", x.load(0), 0);
            x.write(0, 0, (1 << bits) + 1);
            e.due("just its bits", x.load(0), 1);
        }
    }
}
