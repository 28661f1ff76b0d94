/** Promises 18 to 24. */
final class ForetoldTest {
    /** They weigh 3, 3, 6 and 0, and never blurt. */
    private static final String FOUR = "p6,60;o3;o3;o6;l1,0;l2,0;l4,0;l0,0;";

    public static void main(String[] args) {
        Check check = new Check();
        promise18ahead(check);
        promise19later(check);
        promise20when(check);
        promise21lighten(check);
        promise22guess(check);
        promise23load(check);
        promise24share(check);
        nothingChanges(check);
        check.end();
    }

    private static void promise18ahead(Check check) {
        LetterOunces x = Check.reading("p0,0;o1;o2;o4;l7,0;v7,0;b7,0;c7,0;w7,0;");
        int[][] weights = {{7, 3, 1, 0}, {14, 12, 8, 0}, {8, 3, 3, 1}, {3, 3, 3, 3}, {0, 0, 0, 0}};
        int[][] saids = {{0, 4, 6, 7}, {0, 1, 3, 7}, {0, 4, 4, 6}, {0, 0, 0, 0}, {0, 0, 0, 0}};
        for (int letter = 0; letter < 5; letter++) {
            for (int d = 0; d < 4; d++) {
                check.due("ahead(" + letter + ", " + d + ", 0)", x.ahead(letter, d, 0), weights[letter][d]);
                check.due("ahead(" + letter + ", " + d + ", 1)", x.ahead(letter, d, 1), saids[letter][d]);
            }
        }
        check.due("ahead(2, 60, 1)", x.ahead(2, 60, 1), 7);
        check.due("ahead(5, 0, 0)", x.ahead(5, 0, 0), Check.BAD);
        check.due("ahead(-1, 0, 0)", x.ahead(-1, 0, 0), Check.BAD);
        check.due("ahead(0, 61, 0)", x.ahead(0, 61, 0), Check.BAD);
        check.due("ahead(0, -1, 0)", x.ahead(0, -1, 0), Check.BAD);
        check.due("ahead(0, 0, 2)", x.ahead(0, 0, 2), Check.BAD);
        check.due("ahead(0, 0, -1)", x.ahead(0, 0, -1), Check.BAD);
        x.days(1);
        check.due("ahead(2, 1, 0) from DAY 1", x.ahead(2, 1, 0), 3);
        check.due("ahead(2, 2, 0) from DAY 1", x.ahead(2, 2, 0), 1);
        // Nothing happens on odd days, and yet they are not the last on which something does.
        x = Check.reading("p0,0;o1;o2;b3,0;");
        int[] boys = {4, 1, 1, 0, 0};
        for (int d = 0; d < 5; d++) {
            check.due("ahead(0, " + d + ", 0) of a boy's alone", x.ahead(0, d, 0), boys[d]);
        }
        x = Check.reading("p0,0;o2;o1;l3,0;");
        check.due("ahead(0, 2, 1): two words on two days", x.ahead(0, 2, 1), 3);
        x = Check.reading("p9,0;o9;o9;l3,0;");
        check.due("one that is SENT blurts no more", x.ahead(0, 60, 0), 9);
    }

    private static void promise19later(Check check) {
        check.due("later(61, 0) without a POST", new LetterOunces().later(61, 0), Check.STATE);
        LetterOunces x = Check.reading(Check.FIVE);
        int[] sent = {0, 19, 23, 31, 31};
        int[] paid = {0, 8, 16, 23, 23};
        for (int d = 0; d < 5; d++) {
            check.due("later(" + d + ", 0)", x.later(d, 0), sent[d]);
            check.due("later(" + d + ", 1)", x.later(d, 1), paid[d]);
        }
        x.days(1);
        check.due("later(0, 1) is all that is PAID", x.later(0, 1), 8);
        check.due("later(1, 1) is all that is PAID", x.later(1, 1), 16);
        check.due("later(60, 0)", x.later(60, 0), 31);
        check.due("later(61, 0)", x.later(61, 0), Check.BAD);
        check.due("later(-1, 0)", x.later(-1, 0), Check.BAD);
        check.due("later(0, 2)", x.later(0, 2), Check.BAD);
        check.due("later(0, -1)", x.later(0, -1), Check.BAD);
    }

    private static void promise20when(Check check) {
        LetterOunces x = Check.reading(Check.FIVE);
        int[] due = {1, 1, 2, 3, 1};
        for (int letter = 0; letter < 5; letter++) {
            check.due("when(" + letter + ")", x.when(letter), due[letter]);
        }
        check.due("when(5)", x.when(5), Check.BAD);
        check.due("when(-1)", x.when(-1), Check.BAD);
        x.days(1);
        check.due("when(0) of one SENT", x.when(0), 0);
        check.due("when(2) then", x.when(2), 1);
        x = Check.reading("p0,0;o1;b0,0;c1,0;c1,1;b1,0;l1,0;");
        check.due("a boy's that has nothing to say", x.when(0), Check.NONE);
        check.due("a card of half an ounce", x.when(1), 1);
        check.due("a boy's of one word", x.when(3), 1);
        x = Check.reading("p3,60;o4;o3;l1,0;l2,0;");
        check.due("too much for the strap", x.when(0), Check.NONE);
        check.due("just enough", x.when(1), 1);
    }

    private static void lightens(Check check, LetterOunces x, int letter, int w, int words) {
        int many = words == Check.NONE ? Check.NONE : Integer.bitCount(words);
        check.due("lighten(" + letter + ", " + w + ", 0)", x.lighten(letter, w, 0), many);
        check.due("lighten(" + letter + ", " + w + ", 1)", x.lighten(letter, w, 1), words);
    }

    private static void promise21lighten(Check check) {
        LetterOunces x = Check.reading("p0,60;o4;o4;o8;l7,0;v7,0;b7,0;c7,0;w7,0;b0,0;l7,4;");
        int[][] due = {{0, 16, 0}, {0, 15, 1}, {0, 12, 1}, {0, 11, 4}, {0, 8, 4}, {0, 7, 5}, {0, 4, 5}, {0, 3, 7},
            {0, 0, 7}, {1, 99, 0}, {1, 24, 1}, {1, 23, 4}, {1, 8, 5}, {1, 7, 7}, {2, 17, 0}, {2, 16, 1}, {2, 11, 4},
            {3, 8, 0}, {3, 7, 1}, {3, 4, 4}, {3, 3, 5}, {3, 1, 7}, {4, 3, 0}, {4, 2, 1}, {4, 1, 1}, {4, 0, 4},
            {5, 1, 0}, {5, 0, Check.NONE}, {6, 8, 0}, {6, 7, 1}, {6, 3, 3}};
        for (int[] d : due) {
            lightens(check, x, d[0], d[1], d[2]);
        }
        check.due("lighten(7, 0, 0)", x.lighten(7, 0, 0), Check.BAD);
        check.due("lighten(-1, 0, 0)", x.lighten(-1, 0, 0), Check.BAD);
        check.due("lighten(0, 100, 0)", x.lighten(0, 100, 0), Check.BAD);
        check.due("lighten(0, -1, 0)", x.lighten(0, -1, 0), Check.BAD);
        check.due("lighten(0, 0, 2)", x.lighten(0, 0, 2), Check.BAD);
        check.due("lighten(0, 0, -1)", x.lighten(0, 0, -1), Check.BAD);
    }

    private static void promise22guess(Check check) {
        LetterOunces x = Check.reading("p0,60;o1;o2;o3;l4,0;l6,2;w0,0;c4,0;b4,0;v7,7;l7,0;");
        int[] many = {2, 1, 8, 3, 2, 1, 1};
        int[] inAll = {0, 4, 0, 0, 0, 0, 7};
        for (int letter = 0; letter < 7; letter++) {
            check.due("guess(" + letter + ", 0)", x.guess(letter, 0), many[letter]);
            check.due("guess(" + letter + ", 1)", x.guess(letter, 1), inAll[letter]);
        }
        check.due("guess(7, 0)", x.guess(7, 0), Check.BAD);
        check.due("guess(-1, 0)", x.guess(-1, 0), Check.BAD);
        check.due("guess(0, 2)", x.guess(0, 2), Check.BAD);
        check.due("guess(0, -1)", x.guess(0, -1), Check.BAD);
        x = Check.reading("p0,60;o5;o2;o2;l3,0;");
        check.due("guess: two sets", x.guess(0, 0), 2);
        check.due("guess: the five is in both", x.guess(0, 1), 1);
    }

    private static void promise23load(Check check) {
        check.due("load(100, 0) without a POST", new LetterOunces().load(100, 0), Check.STATE);
        LetterOunces x = Check.reading(FOUR);
        int[][] due = {{0, 8, 0}, {2, 8, 0}, {3, 9, 3}, {5, 9, 3}, {6, 11, 6}, {8, 11, 6}, {9, 13, 9}, {11, 13, 9},
            {12, 15, 12}, {99, 15, 12}};
        for (int[] d : due) {
            check.due("load(" + d[0] + ", 0)", x.load(d[0], 0), d[1]);
            check.due("load(" + d[0] + ", 1)", x.load(d[0], 1), d[2]);
        }
        check.due("load(-1, 0)", x.load(-1, 0), Check.BAD);
        check.due("load(100, 0)", x.load(100, 0), Check.BAD);
        check.due("load(0, 2)", x.load(0, 2), Check.BAD);
        check.due("load(0, -1)", x.load(0, -1), Check.BAD);
        x.days(1);
        check.due("SENT are 0, 1, 3", x.count(7), 11);
        check.due("load(99, 0) of what WAITS", x.load(99, 0), 4);
        check.due("load(5, 0) of what WAITS", x.load(5, 0), 0);
        x.days(1);
        check.due("load(99, 0) of none", x.load(99, 0), 0);
        check.due("load(99, 1) of none", x.load(99, 1), 0);
    }

    private static void shares(Check check, LetterOunces x, int n, int... due) {
        for (int letter = 0; letter < due.length; letter++) {
            check.due("share(" + letter + ", " + n + ")", x.share(letter, n), due[letter]);
        }
    }

    private static void promise24share(Check check) {
        LetterOunces x = Check.reading(FOUR);
        shares(check, x, 0, 0, 0, 0, 0);
        shares(check, x, 1, 1, 0, 0, 0);
        shares(check, x, 7, 2, 2, 3, 0);
        shares(check, x, 12, 3, 3, 6, 0);
        shares(check, x, 999, 250, 250, 499, 0);
        check.due("share(4, 0)", x.share(4, 0), Check.BAD);
        check.due("share(-1, 0)", x.share(-1, 0), Check.BAD);
        check.due("share(0, 1000)", x.share(0, 1000), Check.BAD);
        check.due("share(0, -1)", x.share(0, -1), Check.BAD);
        x.days(1);
        x.back(1);
        shares(check, x, 7, 0, 3, 4, 0);
        x.back(3);
        x.days(2);
        shares(check, x, 7, 0, 0, 0, 0);
        shares(check, Check.reading("p0,60;o3;o3;l0,0;l1,0;l2,0;"), 1, 0, 1, 0);
        shares(check, Check.reading("p0,60;o3;l0,0;l1,1;"), 99, 0, 0);
        shares(check, Check.reading("p0,60;o1;l1,0;l1,0;l1,0;l1,0;"), 6, 2, 2, 1, 1);
    }

    private static void nothingChanges(Check check) {
        LetterOunces x = Check.reading(Check.FIVE);
        x.days(1);
        x.ahead(2, 60, 0);
        x.later(60, 1);
        x.when(3);
        x.lighten(2, 0, 0);
        x.guess(2, 0);
        x.load(99, 0);
        x.share(2, 99);
        x.slips(2, 4, 30, 5, 0);
        x.drawn(60, 7, 0);
        x.row(0, 2, 12);
        x.fits(2, 0, 0, 12, 1);
        x.fits(2, 0, 0, 12, 3);
        x.fits(2, 0, 0, 12, 0);
        int[] counts = {1, 4, 5, 1, 12, 4, 8, 19, 1, 0};
        for (int what = 0; what <= 9; what++) {
            check.due("count(" + what + ") behind what is foretold", x.count(what), counts[what]);
        }
        int[] saids = {3, 6, 2, 0, 8};
        for (int letter = 0; letter < 5; letter++) {
            check.due("SAID of " + letter + " behind what is foretold", x.letter(letter, 1), saids[letter]);
            check.due("KIND of " + letter + " behind what is foretold", x.kind(letter), letter + 1);
        }
    }
}
