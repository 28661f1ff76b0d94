/** Promises 18 to 29, sentence by sentence, at their ends. */
final class PromisesForetoldTest {
    /** Seven letters that weigh 9, 18, 10, 4, 0, 0 and 1. */
    private static final String SEVEN = "p9,60;o9;o3;l1,0;v1,0;b1,0;c1,0;w1,0;l1,1;b0,0;";

    private final Check check = new Check();

    public static void main(String[] args) {
        PromisesForetoldTest test = new PromisesForetoldTest();
        test.ahead();
        test.aheadRefused();
        test.later();
        test.laterRefused();
        test.when();
        test.whenRefused();
        test.lighten();
        test.lightenRefused();
        test.guess();
        test.guessRefused();
        test.load();
        test.loadRefused();
        test.share();
        test.shareRefused();
        test.fits();
        test.fitsRefused();
        test.slips();
        test.slipsRefused();
        test.drawn();
        test.drawnRefused();
        test.image();
        test.imageRefused();
        test.restore();
        test.restoreRefused();
        test.check.end();
    }

    private void ahead() {
        check.says(18, "WEIGHT (what = 0), SAID (1).");
        LetterOunces x = Check.reading("p0,0;o9;o3;l3,0;v3,0;b3,0;");
        int[][] weights = {{12, 3, 0, 0}, {24, 18, 0, 0}, {13, 3, 3, 0}};
        int[][] saids = {{0, 1, 3, 3}, {0, 2, 3, 3}, {0, 1, 1, 3}};
        for (int letter = 0; letter < 3; letter++) {
            for (int d = 0; d <= 3; d++) {
                check.due("ahead(" + letter + ", " + d + ", 0)", x.ahead(letter, d, 0), weights[letter][d]);
                check.due("ahead(" + letter + ", " + d + ", 1)", x.ahead(letter, d, 1), saids[letter][d]);
            }
            check.due("ahead(" + letter + ", 60, 0)", x.ahead(letter, 60, 0), 0);
            check.due("ahead(" + letter + ", 60, 1)", x.ahead(letter, 60, 1), 3);
        }
    }

    private void aheadRefused() {
        check.says(18, "BAD.");
        LetterOunces x = Check.reading(SEVEN);
        check.ends("ahead(v, 0, 0)", v -> x.ahead(v, 0, 0), 0, 6);
        check.ends("ahead(6, v, 1)", v -> x.ahead(6, v, 1), 0, 60);
        check.ends("ahead(6, 60, v)", v -> x.ahead(6, 60, v), 0, 1);
        Sight.refused(check, Setup.BARE, "ahead(0, 0, 0)", y -> y.ahead(0, 0, 0), Check.BAD);
        Sight.refused(check, Setup.RICH, "ahead(5, 1, 0)", y -> y.ahead(5, 1, 0), Check.BAD);
        Sight.refused(check, Setup.RICH, "ahead(2, 61, 0)", y -> y.ahead(2, 61, 0), Check.BAD);
        Sight.refused(check, Setup.RICH, "ahead(2, 1, 2)", y -> y.ahead(2, 1, 2), Check.BAD);
    }

    private void later() {
        check.says(19, "LETTERS that are SENT (what = 0), PAID (1), d DAYS on.");
        LetterOunces x = Check.reading(SEVEN);
        int[] sent = {0, 49, 121, 121, 121};
        int[] paid = {0, 9, 14, 14, 14};
        for (int d = 0; d <= 4; d++) {
            check.due("later(" + d + ", 0)", x.later(d, 0), sent[d]);
            check.due("later(" + d + ", 1)", x.later(d, 1), paid[d]);
        }
        check.due("later(60, 0)", x.later(60, 0), 121);
        check.due("later(60, 1)", x.later(60, 1), 14);
        x.days(1);
        check.due("later(0, 1): PAID in all", x.later(0, 1), 9);
        check.due("later(60, 1): PAID in all", x.later(60, 1), 14);
    }

    private void laterRefused() {
        check.says(19, "BAD; STATE: no POST (ahead of BAD).");
        LetterOunces x = Check.reading(SEVEN);
        check.ends("later(v, 0)", v -> x.later(v, 0), 0, 60);
        check.ends("later(60, v)", v -> x.later(60, v), 0, 1);
        LetterOunces bare = new LetterOunces();
        check.due("later(0, 0) without a POST", bare.later(0, 0), Check.STATE);
        check.due("later(61, 0) without a POST", bare.later(61, 0), Check.STATE);
        check.due("later(0, 2) without a POST", bare.later(0, 2), Check.STATE);
        check.due("later(-1, -1) without a POST", bare.later(-1, -1), Check.STATE);
        Sight.refused(check, Setup.BARE, "later(61, 0)", y -> y.later(61, 0), Check.STATE);
        Sight.refused(check, Setup.RICH, "later(61, 0)", y -> y.later(61, 0), Check.BAD);
        Sight.refused(check, Setup.RICH, "later(0, 2)", y -> y.later(0, 2), Check.BAD);
    }

    private void when() {
        check.says(20, "WHEN; NONE.");
        LetterOunces x = Check.reading(SEVEN);
        int[] due = {1, Check.NONE, Check.NONE, 2, 1, 1, 2};
        for (int letter = 0; letter < 7; letter++) {
            check.due("when(" + letter + ")", x.when(letter), due[letter]);
        }
        x.days(2);
        for (int letter = 0; letter < 7; letter++) {
            check.due("when(" + letter + ") two DAYS on", x.when(letter), due[letter] > 0 ? 0 : Check.NONE);
        }
    }

    private void whenRefused() {
        check.says(20, "BAD.");
        LetterOunces x = Check.reading(SEVEN);
        check.ends("when(v)", v -> x.when(v), 0, 6);
        Sight.refused(check, Setup.BARE, "when(0)", y -> y.when(0), Check.BAD);
        Sight.refused(check, Setup.RICH, "when(5)", y -> y.when(5), Check.BAD);
    }

    private void lighten() {
        check.says(21, "LIGHTEN: how many (what = 0), which (1); NONE.");
        LetterOunces x = Check.reading("p0,60;o1;o2;o9;v7,1;b0,0;");
        int[][] due = {{0, 22, 0, 0}, {0, 21, 1, 2}, {0, 18, 1, 2}, {0, 17, 1, 4}, {0, 4, 1, 4}, {0, 3, 2, 6},
            {0, 0, 2, 6}, {0, 99, 0, 0}, {1, 1, 0, 0}, {1, 0, Check.NONE, Check.NONE}};
        for (int[] d : due) {
            check.due("lighten(" + d[0] + ", " + d[1] + ", 0)", x.lighten(d[0], d[1], 0), d[2]);
            check.due("lighten(" + d[0] + ", " + d[1] + ", 1)", x.lighten(d[0], d[1], 1), d[3]);
        }
    }

    private void lightenRefused() {
        check.says(21, "BAD.");
        LetterOunces x = Check.reading(SEVEN);
        check.ends("lighten(v, 0, 0)", v -> x.lighten(v, 0, 0), 0, 6);
        check.ends("lighten(0, v, 1)", v -> x.lighten(0, v, 1), 0, 99);
        check.ends("lighten(0, 99, v)", v -> x.lighten(0, 99, v), 0, 1);
        check.ends("lighten(6, 0, v) of NONE", v -> x.lighten(6, 0, v), 0, 1);
        Sight.refused(check, Setup.BARE, "lighten(0, 0, 0)", y -> y.lighten(0, 0, 0), Check.BAD);
        Sight.refused(check, Setup.RICH, "lighten(5, 0, 0)", y -> y.lighten(5, 0, 0), Check.BAD);
        Sight.refused(check, Setup.RICH, "lighten(0, 100, 0)", y -> y.lighten(0, 100, 0), Check.BAD);
        Sight.refused(check, Setup.RICH, "lighten(0, 0, 2)", y -> y.lighten(0, 0, 2), Check.BAD);
    }

    private void guess() {
        check.says(22, "GUESS: how many (what = 0), WORDS in all (1).");
        LetterOunces x = Check.reading("p0,60;o2;o2;o4;o9;l12,0;l8,0;l9,1;c4,0;w8,0;v3,0;b2,0;");
        int[] many = {2, 1, 1, 2, 11, 2, 2};
        int[] inAll = {8, 8, 8, 0, 0, 0, 0};
        for (int letter = 0; letter < 7; letter++) {
            check.due("guess(" + letter + ", 0)", x.guess(letter, 0), many[letter]);
            check.due("guess(" + letter + ", 1)", x.guess(letter, 1), inAll[letter]);
        }
    }

    private void guessRefused() {
        check.says(22, "BAD.");
        LetterOunces x = Check.reading(SEVEN);
        check.ends("guess(v, 0)", v -> x.guess(v, 0), 0, 6);
        check.ends("guess(0, v)", v -> x.guess(0, v), 0, 1);
        Sight.refused(check, Setup.BARE, "guess(0, 0)", y -> y.guess(0, 0), Check.BAD);
        Sight.refused(check, Setup.RICH, "guess(5, 0)", y -> y.guess(5, 0), Check.BAD);
        Sight.refused(check, Setup.RICH, "guess(0, 2)", y -> y.guess(0, 2), Check.BAD);
    }

    private void load() {
        check.says(23, "LOAD: which (what = 0), how much (1).");
        LetterOunces x = Check.reading(SEVEN);
        int[][] due = {{0, 48, 0}, {1, 112, 1}, {3, 112, 1}, {4, 56, 4}, {5, 120, 5}, {9, 49, 9}, {10, 113, 10},
            {13, 57, 13}, {14, 121, 14}, {41, 63, 41}, {42, 127, 42}, {99, 127, 42}};
        for (int[] d : due) {
            check.due("load(" + d[0] + ", 0)", x.load(d[0], 0), d[1]);
            check.due("load(" + d[0] + ", 1)", x.load(d[0], 1), d[2]);
        }
    }

    private void loadRefused() {
        check.says(23, "BAD; STATE: no POST (ahead of BAD).");
        LetterOunces x = Check.reading(SEVEN);
        check.ends("load(v, 0)", v -> x.load(v, 0), 0, 99);
        check.ends("load(0, v)", v -> x.load(0, v), 0, 1);
        LetterOunces bare = new LetterOunces();
        check.due("load(0, 0) without a POST", bare.load(0, 0), Check.STATE);
        check.due("load(100, 0) without a POST", bare.load(100, 0), Check.STATE);
        check.due("load(0, 2) without a POST", bare.load(0, 2), Check.STATE);
        Sight.refused(check, Setup.BARE, "load(-1, 0)", y -> y.load(-1, 0), Check.STATE);
        Sight.refused(check, Setup.RICH, "load(100, 0)", y -> y.load(100, 0), Check.BAD);
        Sight.refused(check, Setup.RICH, "load(0, 2)", y -> y.load(0, 2), Check.BAD);
    }

    private void share() {
        check.says(24, "SHARE.");
        LetterOunces x = Check.reading(SEVEN);
        // 9, 18, 10, 4 and 1 of 42.
        int[][] due = {{0, 0, 0, 0, 0, 0, 0, 0}, {1, 1, 0, 0, 0, 0, 0, 0}, {42, 9, 18, 10, 4, 0, 0, 1},
            {41, 9, 18, 10, 4, 0, 0, 0}, {43, 10, 18, 10, 4, 0, 0, 1}, {999, 215, 429, 237, 95, 0, 0, 23}};
        for (int[] d : due) {
            int all = 0;
            for (int letter = 0; letter < 7; letter++) {
                check.due("share(" + letter + ", " + d[0] + ")", x.share(letter, d[0]), d[letter + 1]);
                all += x.share(letter, d[0]);
            }
            check.due("all shares of " + d[0], all, d[0]);
        }
        for (int n = 0; n <= 999; n++) {
            x = n % 50 == 0 ? Check.reading(SEVEN) : x;
            int all = 0;
            for (int letter = 0; letter < 7; letter++) {
                all += x.share(letter, n);
            }
            check.due("all shares of " + n, all, n);
        }
    }

    private void shareRefused() {
        check.says(24, "BAD.");
        LetterOunces x = Check.reading(SEVEN);
        check.ends("share(v, 0)", v -> x.share(v, 0), 0, 6);
        check.ends("share(0, v)", v -> x.share(0, v), 0, 999);
        Sight.refused(check, Setup.BARE, "share(0, 0)", y -> y.share(0, 0), Check.BAD);
        Sight.refused(check, Setup.RICH, "share(5, 0)", y -> y.share(5, 0), Check.BAD);
        Sight.refused(check, Setup.RICH, "share(0, 1000)", y -> y.share(0, 1000), Check.BAD);
        Sight.refused(check, Setup.RICH, "share(0, -1), which does not WAIT", y -> y.share(0, -1), Check.BAD);
    }

    private void fits() {
        check.says(25, "SORTS (what = 0), SAIDS: how many (1), the least (2; NONE), LIMITS: how many (3), the least (4; NONE),"
                + " by WEIGHT, n ITEMS of a ROW from i on.");
        for (int lane = 0; lane <= 2; lane++) {
            LetterOunces x = Check.reading("p0,0;o4;o2;o1;l7,0;");
            x.row(7, lane, 40);
            int[] told = {3, 1, 0};
            for (int at : new int[] {0, 5, 37}) {
                for (int k = 0; k < 3; k++) {
                    x.set(7, at + k, told[k]);
                }
                // As it is: by a word more that is said it would be 1, 0, 0, by a limit of 1 it would be 3, 1, 1.
                int[] due = {2, 1, 0, 1, 0};
                for (int what = 0; what <= 4; what++) {
                    check.due("fits(0, 7, " + at + ", 3, " + what + ")", x.fits(0, 7, at, 3, what), due[what]);
                    check.due("status()", x.status(), 0);
                }
                // 3 alone: of 7 by each limit below 7; a boy's of 8 and a card's of 3 are so, too.
                int[] one = {2 + 8 + 16, 1, 0, 7, 0};
                for (int what = 0; what <= 4; what++) {
                    check.due("fits(0, 7, " + at + ", 1, " + what + ")", x.fits(0, 7, at, 1, what), one[what]);
                }
            }
            check.due("fits(0, 7, 28, 12, 0): the last 12", x.fits(0, 7, 28, 12, 0), 0);
            x.set(7, 39, 99);
            int[] none = {0, 0, Check.NONE, 0, Check.NONE};
            for (int what = 0; what <= 4; what++) {
                check.due("fits(0, 7, 39, 1, " + what + ")", x.fits(0, 7, 39, 1, what), none[what]);
            }
        }
    }

    private static LetterOunces withRows(int n) {
        LetterOunces x = Check.reading(SEVEN);
        for (int row = 0; row <= 7; row++) {
            x.row(row, row % 3, n);
        }
        return x;
    }

    private void fitsRefused() {
        check.says(25, "BAD: LETTER, ROW, n, what; NULL; PLACE.");
        LetterOunces x = withRows(12);
        check.ends("fits(v, 0, 0, 1, 0)", v -> x.fits(v, 0, 0, 1, 0), 0, 6);
        check.ends("fits(0, v, 0, 1, 0)", v -> x.fits(0, v, 0, 1, 0), 0, 7);
        check.ends("fits(0, 0, 0, v, 0)", v -> x.fits(0, 0, 0, v, 0), 1, 12);
        check.ends("fits(0, 0, 0, 1, v)", v -> x.fits(0, 0, 0, 1, v), 0, 4);
        check.ends("fits(0, 0, v, 1, 0)", v -> x.fits(0, 0, v, 1, 0), 0, Check.PLACE, 11, Check.PLACE);
        check.ends("fits(0, 0, v, 12, 0)", v -> x.fits(0, 0, v, 12, 0), 0, Check.PLACE, 0, Check.PLACE);
        LetterOunces five = withRows(5);
        check.ends("fits(0, 1, 0, v, 0) of 5", v -> v > 12 ? Check.PLACE : five.fits(0, 1, 0, v, 0), 1, Check.BAD, 5,
                Check.PLACE);
        check.ends("fits(0, 1, v, 2, 0) of 5", v -> five.fits(0, 1, v, 2, 0), 0, Check.PLACE, 3, Check.PLACE);
        LetterOunces empty = withRows(0);
        check.due("fits(0, 2, 0, 1, 0) of 0", empty.fits(0, 2, 0, 1, 0), Check.PLACE);
        Sight.refused(check, Setup.BARE, "fits(0, 1, 0, 1, 0)", y -> y.fits(0, 1, 0, 1, 0), Check.BAD);
        Sight.refused(check, Setup.RICH, "fits(5, 1, 0, 1, 0)", y -> y.fits(5, 1, 0, 1, 0), Check.BAD);
        Sight.refused(check, Setup.RICH, "fits(0, 8, 0, 1, 0)", y -> y.fits(0, 8, 0, 1, 0), Check.BAD);
        Sight.refused(check, Setup.RICH, "fits(0, 0, 0, 13, 0)", y -> y.fits(0, 0, 0, 13, 0), Check.BAD);
        Sight.refused(check, Setup.RICH, "fits(0, 0, -1, 1, 5)", y -> y.fits(0, 0, -1, 1, 5), Check.BAD);
        Sight.refused(check, Setup.RICH, "fits(0, 0, -1, 1, 4)", y -> y.fits(0, 0, -1, 1, 4), Check.NULL);
        Sight.refused(check, Setup.RICH, "fits(0, 1, 3, 2, 4)", y -> y.fits(0, 1, 3, 2, 4), Check.PLACE);
        Sight.refused(check, Setup.RICH, "fits(0, 6, 0, 1, 0)", y -> y.fits(0, 6, 0, 1, 0), Check.PLACE);
    }

    private void slips() {
        check.says(26, "SLIPS (c 0 to 10): above (what = 0), below (1).");
        LetterOunces x = Check.reading("p0,60;o1;o1;o1;o1;o1;o1;l63,0;");
        int[] power = {0, 1, 64, 729, 4096, 15625, 46656, 117649, 262144, 531441, 1000000};
        for (int c = 0; c <= 10; c++) {
            int above = x.slips(0, 0, 0, c, 0);
            int below = x.slips(0, 0, 0, c, 1);
            check.due("all six by " + c, (int) ((long) above * 1000000 / below), power[c]);
            int[] due = {0, 1, 1, 729, 64, 1, 729, 117649, 4096, 531441, 1};
            int[] of = {1, 1000000, 15625, 1000000, 15625, 64, 15625, 1000000, 15625, 1000000, 1};
            check.due("slips(0, 0, 0, " + c + ", 0)", above, due[c]);
            check.due("slips(0, 0, 0, " + c + ", 1)", below, of[c]);
        }
    }

    private void slipsRefused() {
        check.says(26, "BAD.");
        LetterOunces x = Check.reading(SEVEN);
        check.ends("slips(v, 0, 0, 0, 0)", v -> x.slips(v, 0, 0, 0, 0), 0, 6);
        check.ends("slips(0, v, 0, 0, 0)", v -> x.slips(0, v, 0, 0, 0), 0, 99);
        check.ends("slips(0, 0, v, 0, 0)", v -> x.slips(0, 0, v, 0, 0), 0, 30);
        check.ends("slips(0, 0, 0, v, 0)", v -> x.slips(0, 0, 0, v, 0), 0, 10);
        check.ends("slips(0, 0, 0, 0, v)", v -> x.slips(0, 0, 0, 0, v), 0, 1);
        Sight.refused(check, Setup.BARE, "slips(0, 0, 0, 0, 0)", y -> y.slips(0, 0, 0, 0, 0), Check.BAD);
        Sight.refused(check, Setup.RICH, "slips(5, 0, 0, 0, 0)", y -> y.slips(5, 0, 0, 0, 0), Check.BAD);
        Sight.refused(check, Setup.RICH, "slips(0, 100, 0, 0, 0)", y -> y.slips(0, 100, 0, 0, 0), Check.BAD);
        Sight.refused(check, Setup.RICH, "slips(0, 0, 31, 0, 0)", y -> y.slips(0, 0, 31, 0, 0), Check.BAD);
        Sight.refused(check, Setup.RICH, "slips(0, 0, 0, 11, 0)", y -> y.slips(0, 0, 0, 11, 0), Check.BAD);
        Sight.refused(check, Setup.RICH, "slips(0, 0, 0, 0, 2)", y -> y.slips(0, 0, 0, 0, 2), Check.BAD);
    }

    private void drawn() {
        check.says(27, "YEARS by a SEED (1 to 999999): PAID (what = 0), SENT (1).");
        LetterOunces x = Check.reading("p0,60;o9;o5;o1;l3,0;l4,0;");
        // Of 999999 a STRAP of 14, of 1 one of 7; by neither a letter is returned.
        check.due("drawn(1, 999999, 0)", x.drawn(1, 999999, 0), 14);
        check.due("drawn(1, 999999, 1)", x.drawn(1, 999999, 1), 1);
        check.due("drawn(1, 1, 0)", x.drawn(1, 1, 0), 1);
        check.due("drawn(1, 1, 1)", x.drawn(1, 1, 1), 1);
        check.due("drawn(0, 999999, 0)", x.drawn(0, 999999, 0), 0);
        check.due("drawn(0, 999999, 1)", x.drawn(0, 999999, 1), 0);
    }

    private void drawnRefused() {
        check.says(27, "BAD; STATE: no POST (ahead of BAD).");
        LetterOunces x = Check.reading(SEVEN);
        check.ends("drawn(v, 1, 0)", v -> x.drawn(v, 1, 0), 0, 60);
        check.ends("drawn(1, v, 0)", v -> x.drawn(1, v, 0), 1, 999999);
        check.ends("drawn(0, v, 0)", v -> x.drawn(0, v, 0), 1, 999999);
        check.ends("drawn(1, 1, v)", v -> x.drawn(1, 1, v), 0, 1);
        LetterOunces bare = new LetterOunces();
        check.due("drawn(0, 1, 0) without a POST", bare.drawn(0, 1, 0), Check.STATE);
        check.due("drawn(61, 1, 0) without a POST", bare.drawn(61, 1, 0), Check.STATE);
        check.due("drawn(0, 0, 0) without a POST", bare.drawn(0, 0, 0), Check.STATE);
        check.due("drawn(0, 1, 2) without a POST", bare.drawn(0, 1, 2), Check.STATE);
        Sight.refused(check, Setup.BARE, "drawn(61, 0, 2)", y -> y.drawn(61, 0, 2), Check.STATE);
        Sight.refused(check, Setup.RICH, "drawn(61, 1, 0)", y -> y.drawn(61, 1, 0), Check.BAD);
        Sight.refused(check, Setup.RICH, "drawn(1, 0, 0)", y -> y.drawn(1, 0, 0), Check.BAD);
        Sight.refused(check, Setup.RICH, "drawn(1, 1000000, 0)", y -> y.drawn(1, 1000000, 0), Check.BAD);
        Sight.refused(check, Setup.RICH, "drawn(1, 1, 2)", y -> y.drawn(1, 1, 2), Check.BAD);
    }

    private void image() {
        check.says(28, "An IMAGE (0, 1) is kept of the POST: 1.");
        LetterOunces x = Setup.RICH.made();
        int day = x.count(3);
        for (int k = 0; k <= 1; k++) {
            check.due("image(" + k + ")", x.image(k), 1);
            check.due("ACTS stay", x.count(8), 9);
            check.due("DAY stays", x.count(3), day);
            x.days(1);
            check.due("undo()", x.undo(), 9);
        }
        x.strap(1);
        check.due("image(1) in place of the one before", x.image(1), 1);
        x.strap(2);
        x.restore(1);
        check.due("STRAP of image 1", x.count(4), 1);
        x.restore(0);
        check.due("STRAP of image 0", x.count(4), 50);
        // An image stays as it was kept, whatever becomes of the post.
        x.image(0);
        x.say(2, 0);
        x.days(3);
        x.back(0);
        x.limit(0);
        x.restore(0);
        LetterOunces y = Setup.RICH.made();
        for (int what = 3; what <= 7; what++) {
            check.due("count(" + what + ") as it was kept", x.count(what), y.count(what));
        }
        for (int letter = 0; letter < 5; letter++) {
            check.due("SAID of " + letter + " as it was kept", x.letter(letter, 1), y.letter(letter, 1));
        }
    }

    private void imageRefused() {
        check.says(28, "BAD; STATE: no POST.");
        check.ends("image(v)", v -> Setup.RICH.made().image(v), 0, 1);
        check.due("image(0) without a POST", new LetterOunces().image(0), Check.STATE);
        check.due("image(1) without a POST", new LetterOunces().image(1), Check.STATE);
        check.due("image(2) without a POST: BAD is ahead", new LetterOunces().image(2), Check.BAD);
        check.due("image(-1) without a POST: BAD is ahead", new LetterOunces().image(-1), Check.BAD);
        Sight.refused(check, Setup.BARE, "image(1)", y -> y.image(1), Check.STATE);
        Sight.refused(check, Setup.BARE, "image(2)", y -> y.image(2), Check.BAD);
        Sight.refused(check, Setup.RICH, "image(2)", y -> y.image(2), Check.BAD);
        Sight.refused(check, Setup.RICH, "image(-1)", y -> y.image(-1), Check.BAD);
    }

    private void restore() {
        check.says(29, "The POST is as an IMAGE kept it (no ACT can be undone then): 1.");
        LetterOunces x = Setup.RICH.made();
        check.due("restore(0)", x.restore(0), 1);
        check.due("undo()", x.undo(), Check.STATE);
        int[] first = {4, 4, 5, 0, 12, 4, 0, 0, 0, 10};
        int[] second = {4, 4, 5, 2, 50, 7, 16, 21, 0, 10};
        for (int what = 0; what <= 9; what++) {
            check.due("count(" + what + ") of image 0", x.count(what), first[what]);
        }
        check.due("restore(1)", x.restore(1), 1);
        for (int what = 0; what <= 9; what++) {
            check.due("count(" + what + ") of image 1", x.count(what), second[what]);
        }
        check.due("undo()", x.undo(), Check.STATE);
        check.due("restore(1) once more", x.restore(1), 1);
        x.days(2);
        check.due("ACTS behind it", x.count(8), 2);
        check.due("restore(1) behind them", x.restore(1), 1);
        check.due("ACTS then", x.count(8), 0);
        check.due("DAY then", x.count(3), 2);
        // Another post in between, with other words and kinds, and a faulty text.
        x.post();
        Check.feedAll(x, "p1,1;o9;w1,0;");
        x.post();
        check.due("restore(0) behind another POST", x.restore(0), 1);
        check.due("count(2)", x.count(2), 5);
        check.due("kind(0)", x.kind(0), 1);
        check.due("ounces(0)", x.ounces(0), 3);
        check.due("letter(0, 3)", x.letter(0, 3), 12);
    }

    private void restoreRefused() {
        check.says(29, "BAD; STATE: none was kept.");
        check.ends("restore(v)", v -> Setup.RICH.made().restore(v), 0, 1);
        LetterOunces x = Check.reading(SEVEN);
        check.due("restore(0)", x.restore(0), Check.STATE);
        x.image(1);
        check.due("restore(0), for it was 1 that was kept", x.restore(0), Check.STATE);
        check.due("restore(1)", x.restore(1), 1);
        Sight.refused(check, Setup.BARE, "restore(0)", y -> y.restore(0), Check.STATE);
        Sight.refused(check, Setup.BARE, "restore(2)", y -> y.restore(2), Check.BAD);
        Sight.refused(check, Setup.BUSY, "restore(0)", y -> y.restore(0), Check.STATE);
        Sight.refused(check, Setup.BUSY, "restore(1)", y -> y.restore(1), Check.STATE);
        Sight.refused(check, Setup.RICH, "restore(2)", y -> y.restore(2), Check.BAD);
        Sight.refused(check, Setup.RICH, "restore(-1)", y -> y.restore(-1), Check.BAD);
    }
}
