/** Part 3 of the document's Terms, sentence by sentence: what is foretold, and the bounds of each number. */
final class Terms3Test {
    private static final String NINES = "o9;o9;o9;o9;o9;o9;";
    private static final String[] TEXTS = {Check.FIVE, "p0,0;o1;o2;o3;o4;o5;o6;b63,0;b31,0;v63,0;l63,1;w63,0;c63,0;",
        "p9,3;o9;o9;o9;o9;o9;o9;l1,0;l2,0;b4,0;v8,0;l16,0;l32,0;c63,0;", "p99,60;o9;l1,0;", "p1,0;o1;b0,0;c1,0;",
        "p7,5;o7;o6;o5;o4;o3;o2;v63,0;b63,0;l63,0;b21,1;v42,2;w63,3;c63,4;"};

    private final Check check = new Check();

    public static void main(String[] args) {
        Terms3Test test = new Terms3Test();
        test.nothingChanges();
        test.daysOn();
        test.daysOnFromAnOddDay();
        test.daysOnBeyondTheLastDay();
        test.when();
        test.whenAndLaterAgree();
        test.lighten();
        test.lightenLeast();
        test.guess();
        test.load();
        test.loadOfSeveral();
        test.share();
        test.shareOver();
        test.sorts();
        test.saids();
        test.limits();
        test.slips();
        test.slipsEnds();
        test.years();
        test.yearsOfOneLetter();
        test.yearsWrap();
        test.kinds();
        test.check.end();
    }

    private void nothingChanges() {
        check.says("FORETOLD (nothing changes)");
        Sight.unchanged(check, Setup.RICH, "ahead(2, 60, 0)", x -> x.ahead(2, 60, 0));
        Sight.unchanged(check, Setup.RICH, "later(60, 1)", x -> x.later(60, 1));
        Sight.unchanged(check, Setup.RICH, "when(2)", x -> x.when(2));
        Sight.unchanged(check, Setup.RICH, "lighten(2, 0, 1)", x -> x.lighten(2, 0, 1));
        Sight.unchanged(check, Setup.RICH, "guess(2, 1)", x -> x.guess(2, 1));
        Sight.unchanged(check, Setup.RICH, "load(99, 0)", x -> x.load(99, 0));
        Sight.unchanged(check, Setup.RICH, "share(2, 999)", x -> x.share(2, 999));
        for (int what = 0; what <= 4; what++) {
            int of = what;
            Sight.unchanged(check, Setup.RICH, "fits(2, 7, 0, 12, " + what + ")", x -> x.fits(2, 7, 0, 12, of));
        }
        Sight.unchanged(check, Setup.RICH, "slips(2, 9, 30, 5, 0)", x -> x.slips(2, 9, 30, 5, 0));
        Sight.unchanged(check, Setup.RICH, "drawn(60, 999999, 0)", x -> x.drawn(60, 999999, 0));
        Sight.unchanged(check, Setup.BUSY, "ahead(0, 60, 1)", x -> x.ahead(0, 60, 1));
        Sight.unchanged(check, Setup.BUSY, "drawn(60, 1, 1)", x -> x.drawn(60, 1, 1));
    }

    private static LetterOunces behind(String text, int days) {
        LetterOunces x = Check.reading(text);
        for (int left = days; left > 0; left -= 24) {
            x.days(Math.min(left, 24));
        }
        return x;
    }

    /** What is foretold is what the days bring. */
    private void foretold(String text, int from, int d) {
        LetterOunces now = behind(text, from);
        LetterOunces then = behind(text, from + d);
        String on = text + " from DAY " + from + ", " + d + " DAYS on: ";
        for (int letter = 0; letter < now.count(2); letter++) {
            check.due(on + "WEIGHT of " + letter, now.ahead(letter, d, 0), then.letter(letter, 3));
            check.due(on + "SAID of " + letter, now.ahead(letter, d, 1), then.letter(letter, 1));
        }
        check.due(on + "SENT", now.later(d, 0), then.count(7));
        check.due(on + "PAID", now.later(d, 1), then.count(6));
    }

    private void daysOn() {
        check.says("d DAYS on (0 to 60): WEIGHT of a LETTER; what it has SAID (bits); LETTERS (bits) that are SENT; PAID.");
        for (String text : TEXTS) {
            for (int d = 0; d <= 60; d++) {
                foretold(text, 0, d);
            }
        }
        LetterOunces x = Check.reading(Check.FIVE);
        check.ends("ahead(0, v, 0)", v -> x.ahead(0, v, 0), 0, 60);
        check.ends("later(v, 0)", v -> x.later(v, 0), 0, 60);
    }

    private void daysOnFromAnOddDay() {
        check.says("d DAYS on (0 to 60):");
        for (String text : TEXTS) {
            for (int d = 0; d <= 60; d += d < 16 ? 1 : 11) {
                foretold(text, 1, d);
                foretold(text, 2, d);
                foretold(text, 3, d);
            }
        }
    }

    private void daysOnBeyondTheLastDay() {
        check.says("d DAYS on (0 to 60):");
        LetterOunces x = Check.reading("p0,60;o9;o1;b3,0;l3,0;");
        for (int k = 0; k < 416; k++) {
            x.days(24);
        }
        x.days(15);
        x.limit(0);
        check.due("DAY", x.count(3), 9999);
        check.due("days(1)", x.days(1), Check.FULL);
        check.due("ahead(0, 1, 1): DAY 9999 is odd", x.ahead(0, 1, 1), 0);
        check.due("ahead(0, 2, 1)", x.ahead(0, 2, 1), 1);
        check.due("ahead(0, 4, 1)", x.ahead(0, 4, 1), 3);
        check.due("ahead(1, 1, 1)", x.ahead(1, 1, 1), 1);
        check.due("later(60, 0)", x.later(60, 0), 3);
        check.due("when(0)", x.when(0), 4);
        check.due("when(1)", x.when(1), 2);
    }

    private void when() {
        check.says("WHEN: behind how many DAYS (0 to 60) a LETTER is SENT first; NONE.");
        LetterOunces x = Check.reading("p9,60;" + NINES + "l1,0;l2,0;l4,0;l8,0;l16,0;l32,0;l1,0;");
        for (int letter = 0; letter < 7; letter++) {
            check.due("one a DAY, when(" + letter + ")", x.when(letter), letter + 1);
        }
        x.days(1);
        check.due("when(0) of one that is SENT", x.when(0), 0);
        check.due("when(6) then", x.when(6), 6);
        x.back(0);
        check.due("when(0) of one that was returned", x.when(0), 1);
        check.due("when(6) then", x.when(6), 7);
        x = Check.reading("p0,0;o1;o1;o1;o1;o1;o1;b63,0;b63,63;c3,0;c1,0;w63,0;");
        check.due("a boy's of six WORDS", x.when(0), 11);
        check.due("one that has SAID all", x.when(1), 1);
        check.due("a card BLURTS nothing", x.when(2), Check.NONE);
        check.due("a card of 0", x.when(3), 1);
        x.days(1);
        check.due("a boy's of six WORDS, from DAY 1 on", x.when(0), 10);
    }

    /** By the document's own days no letter is SENT behind more than some twenty, so 60 and 61 can't be told apart. */
    private void whenAndLaterAgree() {
        check.says("WHEN: behind how many DAYS (0 to 60) a LETTER is SENT first; NONE.");
        for (String text : TEXTS) {
            LetterOunces x = Check.reading(text);
            for (int letter = 0; letter < x.count(2); letter++) {
                int first = Check.NONE;
                for (int d = 60; d >= 0; d--) {
                    first = (x.later(d, 0) >> letter & 1) == 1 ? d : first;
                }
                check.due(text + " when(" + letter + ")", x.when(letter), first);
            }
        }
    }

    private void lightens(LetterOunces x, int letter, int w, int words) {
        int many = words == Check.NONE ? Check.NONE : Integer.bitCount(words);
        check.due("lighten(" + letter + ", " + w + ", 0)", x.lighten(letter, w, 0), many);
        check.due("lighten(" + letter + ", " + w + ", 1)", x.lighten(letter, w, 1), words);
    }

    private void lighten() {
        check.says("LIGHTEN a LETTER to w (0 to 99): the fewest UNSAID WORDS that, SAID now, too, make its WEIGHT w or less:");
        LetterOunces x = Check.reading("p0,60;" + NINES + "v63,0;b0,0;b1,0;l63,63;w63,0;l63,3;");
        check.ends("lighten(0, v, 0)", v -> x.lighten(0, v, 0), 0, 99);
        int[][] due = {{0, 99, 1}, {0, 90, 1}, {0, 89, 3}, {0, 72, 3}, {0, 18, 31}, {0, 17, 63}, {0, 0, 63},
            {1, 1, 0}, {1, 0, Check.NONE}, {1, 99, 0}, {2, 10, 0}, {2, 9, 1}, {2, 0, 1}, {3, 0, 0}, {3, 99, 0},
            {4, 22, 0}, {4, 21, 1}, {4, 17, 1}, {4, 16, 3}, {4, 4, 15}, {4, 3, 31}, {4, 0, 31},
            {5, 36, 0}, {5, 35, 4}, {5, 0, 60}};
        for (int[] d : due) {
            lightens(x, d[0], d[1], d[2]);
        }
        LetterOunces sent = Check.reading("p99,60;o9;o9;l3,0;");
        sent.days(1);
        lightens(sent, 0, 9, 1);
    }

    private void lightenLeast() {
        check.says("how many; which (bits), of several the least; NONE.");
        LetterOunces x = Check.reading("p0,60;o1;o2;o4;o4;o2;o1;l63,0;v63,0;c63,0;l6,0;");
        int[][] due = {{0, 14, 0}, {0, 13, 1}, {0, 12, 2}, {0, 11, 4}, {0, 10, 4}, {0, 9, 5}, {0, 8, 6}, {0, 7, 12},
            {0, 6, 12}, {0, 5, 13}, {0, 4, 14}, {0, 3, 15}, {0, 2, 30}, {0, 1, 31}, {0, 0, 63}, {1, 27, 1}, {1, 20, 4},
            {1, 0, 63}, {2, 7, 0}, {2, 6, 1}, {2, 5, 4}, {2, 1, 15}, {2, 0, 31}, {3, 5, 2}, {3, 4, 2}, {3, 3, 4},
            {3, 2, 4}, {3, 1, 6}};
        for (int[] d : due) {
            lightens(x, d[0], d[1], d[2]);
        }
    }

    private void guesses(LetterOunces x, int letter, int many, int inAll) {
        check.due("guess(" + letter + ", 0)", x.guess(letter, 0), many);
        check.due("guess(" + letter + ", 1)", x.guess(letter, 1), inAll);
    }

    private void guess() {
        check.says("GUESS of a LETTER: how many sets of WORDS not SAID by it would, UNSAID (in place of what is),"
                + " weigh just as much (of its KIND); WORDS (bits) that are in all of these.");
        LetterOunces x = Check.reading("p0,60;o1;o1;o1;o1;o1;o1;w0,0;l63,63;l63,0;l1,0;l1,1;b0,0;c1,0;");
        guesses(x, 0, 64, 0);
        guesses(x, 1, 1, 0);
        guesses(x, 2, 1, 63);
        guesses(x, 3, 6, 0);
        guesses(x, 4, 1, 0);
        guesses(x, 5, 1, 0);
        guesses(x, 6, 7, 0);
        x = Check.reading("p0,60;o9;o3;o9;o3;o2;o1;l63,1;v5,1;b11,1;l5,0;w63,32;");
        guesses(x, 0, 1, 62);
        guesses(x, 1, 2, 0);
        guesses(x, 2, 3, 0);
        guesses(x, 3, 3, 0);
        // A lawyer's of 26 is as one of 27, but all that it has not said comes to 26.
        guesses(x, 4, 1, 31);
        LetterOunces one = Check.reading("p0,60;o9;l1,0;");
        guesses(one, 0, 1, 1);
        one.say(0, 0);
        guesses(one, 0, 1, 0);
    }

    private void loads(LetterOunces x, int w, int which, int much) {
        check.due("load(" + w + ", 0)", x.load(w, 0), which);
        check.due("load(" + w + ", 1)", x.load(w, 1), much);
    }

    private void load() {
        check.says("LOAD of a strap w (0 to 99): the set of LETTERS that WAIT with WEIGHT w or less together, most of all,");
        LetterOunces x = Check.reading("p0,60;o9;o5;o4;l1,0;l2,0;l4,0;v7,0;");
        check.ends("load(v, 0)", v -> x.load(v, 0), 0, 99);
        loads(x, 0, 0, 0);
        loads(x, 3, 0, 0);
        loads(x, 4, 4, 4);
        loads(x, 5, 2, 5);
        loads(x, 8, 2, 5);
        loads(x, 14, 3, 14);
        loads(x, 17, 3, 14);
        loads(x, 18, 7, 18);
        loads(x, 35, 7, 18);
        loads(x, 36, 8, 36);
        loads(x, 53, 11, 50);
        loads(x, 54, 15, 54);
        loads(x, 99, 15, 54);
        x.strap(99);
        x.days(1);
        loads(x, 99, 0, 0);
        x.back(1);
        x.back(2);
        loads(x, 99, 6, 9);
        loads(x, 8, 2, 5);
        LetterOunces one = Check.reading("p0,60;o9;l1,0;");
        loads(one, 8, 0, 0);
        loads(one, 9, 1, 9);
        LetterOunces heavy = Check.reading("p0,60;" + NINES + "v63,0;v63,0;v63,0;v63,0;v63,0;v63,0;v63,0;");
        loads(heavy, 99, 0, 0);
        LetterOunces full = Check.reading("p0,60;" + NINES + "l63,0;l31,0;l31,0;l31,0;l31,0;l31,0;l31,0;");
        loads(full, 99, 3, 99);
        loads(full, 98, 6, 90);
    }

    private void loadOfSeveral() {
        check.says("of several most LETTERS, then the least bits: which; how much.");
        LetterOunces x = Check.reading("p0,60;o6;o3;o3;o2;l1,0;l2,0;l4,0;l8,0;l8,0;l8,0;l0,0;");
        loads(x, 0, 64, 0);
        loads(x, 1, 64, 0);
        loads(x, 2, 64 + 8, 2);
        loads(x, 3, 64 + 2, 3);
        loads(x, 4, 64 + 8 + 16, 4);
        loads(x, 5, 64 + 2 + 8, 5);
        loads(x, 6, 64 + 8 + 16 + 32, 6);
        loads(x, 12, 64 + 2 + 4 + 8 + 16 + 32, 12);
        loads(x, 18, 127, 18);
        LetterOunces none = Check.reading("p0,60;o1;l0,0;v1,1;c1,0;w1,0;b1,1;l1,1;l1,1;");
        loads(none, 0, 127, 0);
        loads(none, 99, 127, 0);
    }

    private void shares(LetterOunces x, int n, int... due) {
        for (int letter = 0; letter < due.length; letter++) {
            check.due("share(" + letter + ", " + n + ")", x.share(letter, n), due[letter]);
        }
    }

    private void share() {
        check.says("SHARE of a LETTER of n (0 to 999): n times its WEIGHT, by WEIGHT of all that WAIT (cut),");
        LetterOunces x = Check.reading("p0,60;" + NINES + "v63,0;l63,0;");
        check.ends("share(0, v)", v -> x.share(0, v), 0, 999);
        shares(x, 0, 0, 0);
        shares(x, 1, 1, 0);
        shares(x, 2, 2, 0);
        shares(x, 3, 2, 1);
        shares(x, 999, 666, 333);
        LetterOunces heavy = Check.reading("p0,60;" + NINES + "v63,0;v63,0;v63,0;v63,0;v63,0;v63,0;v63,0;");
        shares(heavy, 999, 143, 143, 143, 143, 143, 142, 142);
        shares(Check.reading("p0,60;o1;b0,0;"), 999, 999);
    }

    private void shareOver() {
        check.says("what is over 1 each to the first of these that have WEIGHT; 0 of one that does not WAIT,"
                + " or if there is no WEIGHT.");
        LetterOunces x = Check.reading("p99,60;o2;o3;l0,0;l1,0;v0,0;l1,0;l1,0;l1,1;l2,0;");
        shares(x, 1, 0, 1, 0, 0, 0, 0, 0);
        shares(x, 2, 0, 1, 0, 1, 0, 0, 0);
        shares(x, 3, 0, 1, 0, 1, 0, 0, 1);
        shares(x, 8, 0, 2, 0, 2, 2, 0, 2);
        shares(x, 9, 0, 2, 0, 2, 2, 0, 3);
        shares(x, 10, 0, 3, 0, 2, 2, 0, 3);
        x.days(1);
        shares(x, 999, 0, 0, 0, 0, 0, 0, 0);
        x.back(3);
        shares(x, 999, 0, 0, 0, 999, 0, 0, 0);
        x.back(0);
        x.back(6);
        shares(x, 999, 0, 0, 0, 400, 0, 0, 599);
        LetterOunces ones = Check.reading("p0,60;o1;l1,0;l1,0;l1,1;l1,0;");
        shares(ones, 1, 1, 0, 0, 0);
        shares(ones, 2, 1, 1, 0, 0);
        shares(ones, 3, 1, 1, 0, 1);
        shares(ones, 4, 2, 1, 0, 1);
        LetterOunces none = Check.reading("p0,60;o1;l0,0;l1,1;c1,0;");
        shares(none, 999, 0, 0, 0);
    }

    private void told(LetterOunces x, String of, int n, int... due) {
        for (int what = 0; what < due.length; what++) {
            check.due(of + ", fits(0, 0, 0, " + n + ", " + what + ")", x.fits(0, 0, 0, n, what), due[what]);
        }
    }

    private void sorts() {
        check.says("A row tells WEIGHT of a LETTER behind each of n DAYS (1 to 12) from now on."
                + " SORTS: KINDS (bits 1 to 5) of it by which it is so;");
        LetterOunces all = Check.reading("p0,60;o1;l1,1;l0,0;");
        all.row(0, 0, 12);
        check.ends("fits(0, 0, 0, v, 0)", v -> all.fits(0, 0, 0, v, 0), 1, 12);
        told(all, "one that has SAID all weighs 0 by all KINDS", 12, 62);
        check.due("one with nothing to say, but a boy's", all.fits(1, 0, 0, 12, 0), 62 - 8);
        all.set(0, 11, 1);
        told(all, "11 DAYS are so", 11, 62);
        told(all, "12 DAYS are not", 12, 0);
        check.due("fits(0, 0, 11, 1, 0)", all.fits(0, 0, 11, 1, 0), 0);
        check.due("fits(1, 0, 11, 1, 0): a boy's", all.fits(1, 0, 11, 1, 0), 8);
        // Behind a day, two days, three days, with 4, 2 and 1 ounces, no limit and no strap to speak of.
        int[][] byKind = {{3, 1, 0}, {12, 8, 0}, {3, 3, 1}, {3, 3, 3}, {0, 0, 0}};
        int[] fitting = {2, 4, 8, 16, 32};
        LetterOunces x = Check.reading("p0,0;o4;o2;o1;l7,0;");
        x.row(0, 1, 3);
        for (int k = 0; k < 5; k++) {
            Check.setAll(x, 0, byKind[k]);
            told(x, "kind " + (k + 1), 3, fitting[k]);
        }
        Check.setAll(x, 0, 3, 3, 3);
        told(x, "of one DAY: plain, boy's and card", 1, 2 + 8 + 16);
        told(x, "of two DAYS: boy's and card", 2, 8 + 16);
        Check.setAll(x, 0, 7, 3, 1);
        told(x, "what it is now is not told", 3, 0);
    }

    private void saids() {
        check.says("SAIDS: sets of what it WOULD that it may have SAID by now: how many; the least (as bits; NONE);");
        LetterOunces x = Check.reading("p0,60;o1;o1;o1;o1;o1;o1;w63,21;");
        x.row(0, 2, 12);
        told(x, "a lawyer's of little", 12, 62 - 2 - 4 - 8 - 16, 64, 0);
        x.set(0, 0, 1);
        told(x, "a card's, and none SAID", 1, 16, 0, Check.NONE);
        x = Check.reading("p0,60;o1;o1;o1;o1;o1;o1;l63,0;");
        x.row(0, 2, 1);
        int[] many = {1, 6, 15, 20, 15, 6, 1};
        for (int said = 0; said <= 6; said++) {
            x.set(0, 0, 6 - said);
            check.due(said + " SAID, how many", x.fits(0, 0, 0, 1, 1), many[said]);
            check.due(said + " SAID, the least", x.fits(0, 0, 0, 1, 2), (1 << said) - 1);
        }
        x.set(0, 0, 7);
        check.due("7, how many", x.fits(0, 0, 0, 1, 1), 0);
        check.due("7, the least", x.fits(0, 0, 0, 1, 2), Check.NONE);
        x = Check.reading("p0,60;o1;o1;o1;l5,5;");
        x.row(0, 2, 1);
        x.set(0, 0, 1);
        check.due("what it WOULD alone, how many", x.fits(0, 0, 0, 1, 1), 2);
        check.due("what it WOULD alone, the least", x.fits(0, 0, 0, 1, 2), 1);
    }

    private void limits() {
        check.says("LIMITS (0 to 60): how many; the least; NONE.");
        LetterOunces x = Check.reading("p0,7;o9;o9;o9;o3;v15,0;");
        x.row(0, 0, 1);
        int[][] due = {{60, 1, 60}, {54, 60, 0}, {0, 0, Check.NONE}, {61, 0, Check.NONE}};
        for (int[] d : due) {
            x.set(0, 0, d[0]);
            check.due(d[0] + ", how many", x.fits(0, 0, 0, 1, 3), d[1]);
            check.due(d[0] + ", the least", x.fits(0, 0, 0, 1, 4), d[2]);
        }
        x = Check.reading("p0,60;o1;l1,0;c1,0;");
        x.row(0, 0, 12);
        check.due("0, how many", x.fits(0, 0, 0, 12, 3), 1);
        check.due("0, the least", x.fits(0, 0, 0, 12, 4), 0);
        check.due("0 of a card, how many", x.fits(1, 0, 0, 12, 3), 61);
        check.due("0 of a card, the least", x.fits(1, 0, 0, 12, 4), 0);
        x.set(0, 0, 1);
        check.due("1, how many", x.fits(0, 0, 0, 1, 3), 60);
        check.due("1, the least", x.fits(0, 0, 0, 1, 4), 1);
        check.due("1 of a card, how many", x.fits(1, 0, 0, 1, 3), 0);
        check.due("1 of a card, the least", x.fits(1, 0, 0, 1, 4), Check.NONE);
    }

    private void slips(LetterOunces x, int letter, int w, int n, int c, int above, int below) {
        String call = "slips(" + letter + ", " + w + ", " + n + ", " + c + ", ";
        check.due(call + "0)", x.slips(letter, w, n, c, 0), above);
        check.due(call + "1)", x.slips(letter, w, n, c, 1), below);
    }

    private void slips() {
        check.says("SLIPS: each UNSAID WORD of a LETTER is SAID now by c of 10, each by itself:"
                + " that its WEIGHT is w (0 to 99) or less behind n DAYS (0 to 30): a fraction.");
        LetterOunces x = Check.reading("p0,60;" + NINES + "v63,0;b63,0;l63,62;l63,63;w63,0;");
        slips(x, 0, 99, 0, 0, 0, 1);
        slips(x, 0, 99, 0, 10, 1, 1);
        slips(x, 0, 0, 0, 1, 1, 1000000);
        slips(x, 0, 0, 0, 9, 531441, 1000000);
        slips(x, 0, 0, 0, 5, 1, 64);
        slips(x, 0, 99, 0, 5, 63, 64);
        slips(x, 0, 90, 0, 5, 63, 64);
        slips(x, 0, 89, 0, 5, 57, 64);
        slips(x, 1, 54, 0, 5, 63, 64);
        slips(x, 1, 55, 0, 5, 1, 1);
        slips(x, 2, 8, 0, 7, 7, 10);
        slips(x, 2, 9, 0, 7, 1, 1);
        slips(x, 3, 0, 0, 0, 1, 1);
        slips(x, 3, 0, 30, 10, 1, 1);
        slips(x, 4, 0, 0, 5, 7, 64);
        // Above 60 the lover's blurts a word a day, till it is 54.
        slips(x, 0, 54, 0, 5, 21, 32);
        slips(x, 0, 54, 1, 5, 57, 64);
        slips(x, 0, 54, 2, 5, 63, 64);
        slips(x, 0, 54, 3, 5, 1, 1);
        slips(x, 0, 53, 30, 5, 11, 32);
    }

    private void slipsEnds() {
        check.says("w (0 to 99) or less behind n DAYS (0 to 30)");
        LetterOunces x = Check.reading("p0,0;o1;o1;o1;l7,0;b7,0;");
        check.ends("slips(0, v, 0, 0, 0)", v -> x.slips(0, v, 0, 0, 0), 0, 99);
        check.ends("slips(0, 0, v, 0, 0)", v -> x.slips(0, 0, v, 0, 0), 0, 30);
        check.ends("slips(0, 0, 0, v, 0)", v -> x.slips(0, 0, 0, v, 0), 0, 10);
        slips(x, 0, 0, 2, 0, 0, 1);
        slips(x, 0, 0, 3, 0, 1, 1);
        slips(x, 0, 0, 30, 0, 1, 1);
        slips(x, 1, 0, 4, 0, 0, 1);
        slips(x, 1, 0, 5, 0, 1, 1);
        slips(x, 1, 0, 3, 5, 7, 8);
        slips(x, 1, 0, 2, 5, 1, 2);
        slips(x, 1, 0, 0, 5, 1, 8);
        x.days(1);
        // Both have blurted word 0; on odd days the boy's blurts nothing.
        slips(x, 1, 0, 1, 5, 1, 4);
        slips(x, 1, 0, 2, 5, 3, 4);
        slips(x, 1, 0, 4, 5, 1, 1);
    }

    private void years() {
        check.says("YEARS of n DAYS (0 to 60) by a SEED (X at first): ahead of each X becomes the rest of (X times 16807)"
                + " by 2147483647; STRAP is the rest of X by 30 from then on; the LETTER that is the rest of X by how many"
                + " there are is returned, if X by 3 leaves 0, and all that it had SAID is taken back, if X by 2 leaves 0,"
                + " too; then the DAY: PAID by these; how many are SENT at last.");
        LetterOunces x = Check.reading("p99,60;o9;o5;l3,0;l1,0;");
        check.ends("drawn(v, 1, 0)", v -> x.drawn(v, 1, 0), 0, 60);
        check.ends("drawn(60, v, 0)", v -> x.drawn(60, v, 0), 1, 999999);
        check.due("drawn(0, 1, 0)", x.drawn(0, 1, 0), 0);
        check.due("drawn(0, 1, 1)", x.drawn(0, 1, 1), 0);
        // Of seed 1 X is 16807: a STRAP of 7 takes none; then 282475249, of 19: letter 0; then 1622650073, of 23.
        int[] paid = {0, 0, 14, 23};
        for (int n = 0; n <= 3; n++) {
            check.due("drawn(" + n + ", 1, 0)", x.drawn(n, 1, 0), paid[n]);
            check.due("drawn(" + n + ", 1, 1)", x.drawn(n, 1, 1), Math.max(n - 1, 0));
        }
        x.days(1);
        check.due("PAID", x.count(6), 23);
        check.due("drawn(0, 1, 0) PAID by these", x.drawn(0, 1, 0), 0);
        check.due("drawn(0, 1, 1) SENT at last", x.drawn(0, 1, 1), 2);
        check.due("drawn(3, 1, 0): none of these leaves 0 by 3", x.drawn(3, 1, 0), 0);
        // Of seed 3 X is 50421: by 3 it leaves 0, by 2 it leaves 1: letter 1 is returned; a STRAP of 21.
        check.due("drawn(1, 3, 0)", x.drawn(1, 3, 0), 9);
        x.say(1, 0);
        check.due("drawn(1, 3, 0), what it SAID stays", x.drawn(1, 3, 0), 0);
        // Of seed 6 X is 100842: it leaves 0 by 3 and by 2: letter 0, and a STRAP of 12, too little for 14.
        check.due("drawn(1, 6, 0)", x.drawn(1, 6, 0), 0);
        check.due("drawn(1, 6, 1)", x.drawn(1, 6, 1), 1);
        x.say(0, 0);
        check.due("drawn(1, 6, 0), all is taken back, so that it is too much", x.drawn(1, 6, 0), 0);
        check.due("drawn(1, 6, 1)", x.drawn(1, 6, 1), 1);
        // Of seed 2 X is 33614: by 2 it leaves 0, by 3 it leaves 2: nothing is returned, nothing taken back.
        x.back(0);
        check.due("drawn(1, 2, 0), a STRAP of 14", x.drawn(1, 2, 0), 5);
    }

    private void yearsOfOneLetter() {
        check.says("the LETTER that is the rest of X by how many there are is returned, if X by 3 leaves 0,");
        LetterOunces x = Check.reading("p99,60;o9;l1,0;");
        x.days(1);
        check.due("drawn(1, 3, 0)", x.drawn(1, 3, 0), 9);
        check.due("drawn(1, 1, 0)", x.drawn(1, 1, 0), 0);
        // Of seed 3 X is 50421, and leaves 0 by 7; of seed 127774 it is 13971, and leaves 6.
        x = Check.reading("p99,60;o1;o9;l1,0;l1,0;l1,0;l1,0;l1,0;l1,0;l2,0;");
        x.days(1);
        check.due("drawn(1, 3, 0) of seven", x.drawn(1, 3, 0), 1);
        check.due("drawn(1, 127774, 0) of seven", x.drawn(1, 127774, 0), 9);
    }

    private void yearsWrap() {
        check.says("the rest of (X times 16807) by 2147483647;");
        // 999999 times 16807 is 16806983193, seven times 2147483647 and 1774597664: a STRAP of 14.
        LetterOunces x = Check.reading("p0,60;o9;o5;o1;l3,0;");
        check.due("drawn(1, 999999, 0)", x.drawn(1, 999999, 0), 14);
        x = Check.reading("p0,60;o9;o5;o1;l7,0;");
        check.due("drawn(1, 999999, 0) of 15", x.drawn(1, 999999, 0), 0);
        // 127773 times 16807 is 2147480811, the last that is not cut; 127774 times it is 2147497618, and leaves 13971.
        int[][] straps = {{127773, 21}, {127774, 21}, {1, 7}};
        for (int[] d : straps) {
            LetterOunces y = Check.reading("p0,60;o9;o9;o3;o1;l7,0;l8,0;");
            check.due("drawn(1, " + d[0] + ", 1)", y.drawn(1, d[0], 1), 1);
            check.due("drawn(1, " + d[0] + ", 0)", y.drawn(1, d[0], 0), d[1] == 21 ? 21 : 1);
        }
    }

    private void kinds() {
        check.says("KINDS of LETTERS: 0 LETTER; 1 PLAIN, a LETTER; 2 LOVER, a PLAIN; 3 BOY, a PLAIN; 4 CARD, a LETTER;"
                + " 5 LAWYER, a CARD. By this it is asked.");
        LetterOunces x = Check.reading(Check.FIVE);
        String[] is = {"01", "012", "013", "04", "045"};
        for (int letter = 0; letter < 5; letter++) {
            for (int kind = 0; kind <= 5; kind++) {
                boolean isSo = is[letter].indexOf('0' + kind) >= 0;
                check.due("as(" + letter + ", " + kind + ")", x.as(letter, kind), isSo ? letter : Check.KIND);
            }
        }
        int[] begins = {11, 12, 11, 13, 14};
        int[] marks = {21, 24, 22, 23, 23};
        for (int letter = 0; letter < 5; letter++) {
            x.ask(letter, 0);
            check.due("SIZE of kind " + (letter + 1), x.trace(0), begins[letter]);
            x.ask(letter, 1);
            check.due("MARK of kind " + (letter + 1), x.trace(0), marks[letter]);
        }
    }
}
