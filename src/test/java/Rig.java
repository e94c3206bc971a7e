/** Makes an object as a test needs it; each time the same. */
interface Rig {
    TitleMimes build();

    /** Words as three digits (SYLLABLES, SOUND, SENSE), titles as the numbers of their words (a to f: 10 to 15). */
    static TitleMimes game(String words, String titles) {
        TitleMimes x = new TitleMimes();
        for (String w : parts(words)) {
            x.word(w.charAt(0) - '0', w.charAt(1) - '0', w.charAt(2) - '0');
        }
        int number = 0;
        for (String t : parts(titles)) {
            x.title(Character.digit(t.charAt(0), 16));
            for (int i = 1; i < t.length(); i++) {
                x.more(number, Character.digit(t.charAt(i), 16));
            }
            number++;
        }
        return x;
    }

    private static String[] parts(String row) {
        return row.isEmpty() ? new String[0] : row.split(" ");
    }

    static TitleMimes empty() {
        return new TitleMimes();
    }

    /**
     * 4 words, 7 titles (band 0 knows all but 1, band 1 all but 4), scores, spots, a slip of title 2 for
     * band 1 with SIGN shown (titles 2 and 6 fit), sheets of 3, 0, 2 numbers and none, a tape, an older image.
     */
    static TitleMimes rich() {
        TitleMimes x = game("100 234 251 325", "0 1 01 123 3 2013");
        x.know(4, 1, false);
        x.know(1, 0, false);
        x.hold(2, 9);
        x.hold(7, 24);
        x.seed(77);
        x.slip(0, 0);
        x.shout(0);
        x.end();
        x.slip(0, 1);
        x.show(5, 1);
        x.image();
        x.title(2);
        x.more(6, 1);
        x.hold(3, 0);
        x.seed(-5);
        x.slip(2, 1);
        x.show(0, 0);
        x.sheet(0, 8, 3);
        x.write(0, 0, 1);
        x.write(0, 1, 28);
        x.write(0, 2, 9);
        x.sheet(1, 16, 0);
        x.sheet(2, 32, 2);
        x.write(2, 0, 4);
        x.write(2, 1, 2);
        Due.feed(x, "word 2;title 4 0");
        return x;
    }

    /** The rich object without its slip. */
    static TitleMimes idle() {
        TitleMimes x = rich();
        x.end();
        return x;
    }

    /** 16 words, 24 titles (23 of 4 words), a tape of 120 bytes, an image of nothing. */
    static TitleMimes full() {
        TitleMimes x = new TitleMimes();
        x.image();
        for (int w = 0; w < 16; w++) {
            x.word(1 + w % 6, w % 10, w / 2);
        }
        for (int t = 0; t < 24; t++) {
            x.title(t % 16);
        }
        for (int i = 0; i < 3; i++) {
            x.more(23, i);
        }
        for (int k = 0; k < 30; k++) {
            x.feed(0x3b3b3b3b, 4);
        }
        return x;
    }
}
