/** Part 1 of the document's Terms, sentence by sentence: rows, the tape, its tokens, a post's text and its faults. */
final class Terms1Test {
    private static final String SIX = "o1;o2;o3;o4;o5;o6;";

    private final Check check = new Check();

    public static void main(String[] args) {
        Terms1Test test = new Terms1Test();
        test.rows();
        test.lanes();
        test.tape();
        test.letterTokens();
        test.numberTokens();
        test.foreignBytes();
        test.postForm();
        test.law();
        test.words();
        test.sorts();
        test.woulds();
        test.saids();
        test.sevenLetters();
        test.inPlaceOfTheOneBefore();
        test.firstFault();
        test.leastFaultOfOneToken();
        test.threeFigures();
        test.end();
        test.numbersNotAsTold();
        test.moreThanRoom();
        test.check.end();
    }

    private static LetterOunces fed(String text) {
        LetterOunces x = new LetterOunces();
        Check.feedAll(x, text);
        return x;
    }

    private void read(String text, int letters) {
        LetterOunces x = fed(text);
        check.due("post() of " + text, x.post(), letters);
        check.due("count(2) of " + text, x.count(2), letters);
        check.due("fault() of " + text, x.fault(), 0);
    }

    private void faulty(String text, int number, int place) {
        LetterOunces x = fed(text);
        check.due("post() of " + text, x.post(), -1000100 - place);
        check.due("fault() of " + text, x.fault(), number);
        check.due("count(2) of " + text, x.count(2), 0);
    }

    private void rows() {
        check.says("ROWS 0 .. 7 are missing (at first), or have a LANE (0 bytes, 1 shorts, 2 ints)"
                + " and 0 to 40 ITEMS, 0 at first.");
        LetterOunces x = Check.reading("p0,60;o9;l1,1;");
        for (int row = 0; row <= 7; row++) {
            check.due("drop(" + row + ") at first", x.drop(row), Check.NULL);
            check.due("row(" + row + ", 0, 0)", x.row(row, 0, 0), 0);
            check.due("count(0)", x.count(0), row + 1);
        }
        check.due("row(8, 0, 0)", x.row(8, 0, 0), Check.BAD);
        check.due("row(-1, 0, 0)", x.row(-1, 0, 0), Check.BAD);
        check.due("set(0, 0, 1) of no ITEMS", x.set(0, 0, 1), Check.PLACE);
        x.row(0, 2, 40);
        for (int i = 0; i < 40; i++) {
            // The letter has said all and weighs 0 as a plain one, so that only 0 fits.
            check.due("ITEM " + i + " is 0 at first", x.fits(0, 0, i, 1, 0) & 2, 2);
            x.set(0, i, -1);
        }
        check.due("set(0, 40, 1)", x.set(0, 40, 1), Check.PLACE);
        check.due("row(0, 2, 41)", x.row(0, 2, 41), Check.BAD);
        x.row(0, 2, 40);
        for (int i = 0; i < 40; i++) {
            check.due("ITEM " + i + " is 0 again", x.fits(0, 0, i, 1, 0) & 2, 2);
        }
    }

    private void lanes() {
        check.says("have a LANE (0 bytes, 1 shorts, 2 ints)");
        LetterOunces x = new LetterOunces();
        int[][] due = {{127, -128, -1, 0}, {255, -32768, -1, 32767}, {255, 32768, 65535, Check.HIGH}};
        int[] given = {127, 128, 255, 256};
        int[] shorts = {255, 32768, 65535, 32767};
        int[] ints = {255, 32768, 65535, Check.HIGH};
        int[][] sets = {given, shorts, ints};
        for (int lane = 0; lane <= 2; lane++) {
            x.row(3, lane, 1);
            for (int k = 0; k < 4; k++) {
                check.due("lane " + lane + ", set(3, 0, " + sets[lane][k] + ")", x.set(3, 0, sets[lane][k]), due[lane][k]);
            }
        }
        check.due("row(3, 3, 1)", x.row(3, 3, 1), Check.BAD);
        check.due("row(3, -1, 1)", x.row(3, -1, 1), Check.BAD);
    }

    private void tape() {
        check.says("TEXTS: THE TAPE has at most 100 bytes, that come one by one;");
        LetterOunces x = new LetterOunces();
        check.due("count(9) at first", x.count(9), 0);
        for (int n = 1; n <= 100; n++) {
            check.due("feed() of byte " + n, x.feed(n % 256), n);
            check.due("count(9)", x.count(9), n);
        }
        check.due("feed() of byte 101", x.feed(1), Check.FULL);
        check.due("count(9) then", x.count(9), 100);
        x.post();
        for (int n = 1; n <= 100; n++) {
            x.feed(255);
        }
        check.due("feed() of byte 101 of another text", x.feed(255), Check.FULL);
    }

    private void letterTokens() {
        check.says("TOKENS: letters a to z (each by itself),");
        for (char c = 'a'; c <= 'z'; c++) {
            boolean isSort = "lvbcw".indexOf(c) >= 0;
            if (c == 'p') {
                read(c + "1,1;o1;l1,0;", 1);
            } else {
                faulty(c + "1,1;o1;l1,0;", 1, 0);
            }
            if (c == 'o') {
                read("p1,1;" + c + "1;l1,0;", 1);
            } else {
                faulty("p1,1;" + c + "1;l1,0;", 1, 5);
            }
            if (isSort) {
                read("p1,1;o1;" + c + "1,0;", 1);
                read("p1,1;o1;l1,0;" + c + "1,0;", 2);
            } else {
                faulty("p1,1;o1;" + c + "1,0;", 1, c == 'o' ? 10 : 8);
                faulty("p1,1;o1;l1,0;" + c + "1,0;", 1, 13);
            }
            faulty("p" + c + "1,1;o1;l1,0;", 1, 1);
            faulty("p1,1;o" + c + "1;l1,0;", 1, 6);
            faulty("p1,1;o1;l" + c + "1,0;", 1, 9);
            faulty("p1,1;o1;l1,0" + c + ";", 1, 12);
        }
    }

    private void numberTokens() {
        check.says("NUMBERS (figures, 2 at most),");
        for (int n = 0; n <= 9; n++) {
            LetterOunces x = fed("p0" + n + "," + n + ";o1;l0,0;");
            check.due("post() with 0" + n, x.post(), 1);
            check.due("STRAP 0" + n, x.count(4), n);
            check.due("LIMIT " + n, x.count(5), n);
        }
        read("p00,00;o01;l00,00;", 1);
        faulty("p000,0;o1;l0,0;", 1, 1);
        faulty("p0,000;o1;l0,0;", 1, 3);
        faulty("p0,0;o001;l0,0;", 1, 6);
        faulty("p0,0;o1;l000,0;", 1, 9);
        faulty("p0,0;o1;l0,000;", 1, 11);
        faulty("p,0;o1;l0,0;", 1, 1);
        faulty("p0,;o1;l0,0;", 1, 3);
        faulty("p0,0;o;l0,0;", 1, 6);
        faulty("p0,0;o1;l,0;", 1, 9);
        faulty("p0,0;o1;l0,;", 1, 11);
    }

    private void foreignBytes() {
        check.says("SIGNS , and ; nothing else, no blanks.");
        String text = "p12,34;o5;l1,0;";
        for (char c = 0; c < 256; c++) {
            boolean isToken = c >= 'a' && c <= 'z' || c >= '0' && c <= '9' || c == ',' || c == ';';
            for (int at = 0; at <= text.length() && !isToken; at++) {
                faulty(text.substring(0, at) + c + text.substring(at), 1, at);
            }
        }
        faulty("p12;34;o5;l1,0;", 1, 3);
        faulty("p12,34,o5;l1,0;", 1, 6);
        faulty("p12,34;o5,l1,0;", 1, 9);
        faulty("p12,34;o5;l1;0;", 1, 12);
        faulty("p12,34;o5;l1,0,", 1, 14);
        faulty(",12,34;o5;l1,0;", 1, 0);
        faulty("p,,34;o5;l1,0;", 1, 1);
        faulty("p12,34;;o5;l1,0;", 1, 7);
        faulty("p12,34;o5;,l1,0;", 1, 10);
    }

    private void postForm() {
        check.says("post: law word { word } letter { letter }.");
        read("p0,0;o1;l0,0;", 1);
        read("p0,0;o1;o1;l0,0;", 1);
        read("p0,0;o1;l0,0;l0,0;", 2);
        faulty("o1;l0,0;", 1, 0);
        faulty("p0,0;l0,0;", 1, 5);
        faulty("p0,0;o1;", 1, 8);
        faulty("p0,0;", 1, 5);
        faulty("", 1, 0);
        faulty("p0,0;p0,0;o1;l0,0;", 1, 5);
        faulty("p0,0;o1;p0,0;l0,0;", 1, 8);
        faulty("p0,0;o1;l0,0;o1;l0,0;", 1, 13);
        faulty("p0,0;o1;l0,0;p0,0;", 1, 13);
    }

    private void law() {
        check.says("law: p STRAP , LIMIT ; (0 to 99; 0 to 60).");
        for (int v = 0; v <= 99; v++) {
            LetterOunces x = fed("p" + v + ",0;o1;l0,0;");
            check.due("post() with STRAP " + v, x.post(), 1);
            check.due("STRAP", x.count(4), v);
            if (v <= 60) {
                x = fed("p0," + v + ";o1;l0,0;");
                check.due("post() with LIMIT " + v, x.post(), 1);
                check.due("LIMIT", x.count(5), v);
            } else {
                faulty("p0," + v + ";o1;l0,0;", 2, 3);
            }
        }
        faulty("p100,0;o1;l0,0;", 1, 1);
        faulty("p0,100;o1;l0,0;", 1, 3);
    }

    private void words() {
        check.says("word: o OUNCES ; (1 to 9; WORDS 0 .. 5, 6 at most).");
        for (int v = 1; v <= 9; v++) {
            LetterOunces x = fed("p0,0;o" + v + ";l0,0;");
            check.due("post() with OUNCES " + v, x.post(), 1);
            check.due("OUNCES", x.ounces(0), v);
        }
        faulty("p0,0;o0;l0,0;", 2, 6);
        faulty("p0,0;o00;l0,0;", 2, 6);
        faulty("p0,0;o10;l0,0;", 2, 6);
        faulty("p0,0;o99;l0,0;", 2, 6);
        StringBuilder text = new StringBuilder("p0,0;");
        for (int n = 1; n <= 6; n++) {
            text.append('o').append(n).append(';');
            LetterOunces x = fed(text + "l0,0;");
            check.due("post() with " + n + " WORDS", x.post(), 1);
            check.due("WORDS", x.count(1), n);
            check.due("the last of them", x.ounces(n - 1), n);
            check.due("none behind it", x.ounces(n), Check.BAD);
        }
        faulty(text + "o7;l0,0;", 3, 23);
    }

    private void sorts() {
        check.says("letter: SORT WOULD , SAID ; (SORT: l a plain one, v a lover's, b a boy's, c a card, w a lawyer's;");
        LetterOunces x = fed("p0,0;o1;l1,0;v1,0;b1,0;c1,0;w1,0;");
        check.due("post()", x.post(), 5);
        for (int letter = 0; letter < 5; letter++) {
            check.due("kind(" + letter + ")", x.kind(letter), letter + 1);
        }
    }

    private void woulds() {
        check.says("a set of WORDS that there are, as bits: 0 to 63;");
        StringBuilder words = new StringBuilder("p0,0;");
        for (int n = 1; n <= 6; n++) {
            words.append("o9;");
            for (int would = 0; would <= 99; would++) {
                String text = words + "l" + would + ",0;";
                if (would < 1 << n) {
                    LetterOunces x = fed(text);
                    check.due("post() of " + text, x.post(), 1);
                    check.due("WOULD of " + text, x.letter(0, 0), would);
                } else {
                    faulty(text, 2, words.length() + 1);
                }
            }
        }
    }

    private void saids() {
        check.says("a set of WORDS of these;");
        for (int would = 0; would <= 63; would++) {
            for (int said = 0; said <= 65; said++) {
                String text = "p0,0;" + SIX + "v" + would + "," + said + ";";
                LetterOunces x = fed(text);
                boolean isOfThese = (would | said) == would;
                int place = would < 10 ? 26 : 27;
                check.due("post() of " + text, x.post(), isOfThese ? 1 : -1000100 - place);
                check.due("fault() of " + text, x.fault(), isOfThese ? 0 : 2);
                check.due("SAID of " + text, x.letter(0, 1), isOfThese ? said : Check.BAD);
            }
        }
        faulty("p0,0;" + SIX + "l63,99;", 2, 27);
    }

    private void sevenLetters() {
        check.says("LETTERS 0 .. 6, 7 at most).");
        StringBuilder text = new StringBuilder("p0,0;" + SIX);
        for (int n = 1; n <= 7; n++) {
            text.append('l').append(n).append(",0;");
            LetterOunces x = fed(text.toString());
            check.due("post() with " + n + " LETTERS", x.post(), n);
            check.due("the last of them", x.letter(n - 1, 0), n);
            check.due("none behind it", x.letter(n, 0), Check.BAD);
        }
        for (String sort : new String[] {"l", "v", "b", "c", "w"}) {
            faulty(text + sort + "0,0;", 3, text.length());
        }
    }

    private void inPlaceOfTheOneBefore() {
        check.says("A POST that is read stands in place of the one before (none at first): DAY 0, all LETTERS WAIT,"
                + " nothing is PAID; no ACT can be undone.");
        LetterOunces x = fed(Check.FIVE);
        check.due("none at first: count(2)", x.count(2), 0);
        check.due("none at first: days(1)", x.days(1), Check.STATE);
        check.due("post()", x.post(), 5);
        x.days(24);
        x.strap(3);
        check.due("all are SENT", x.count(7), 31);
        Check.feedAll(x, "p7,8;o9;o1;v3,1;c2,2;");
        check.due("post()", x.post(), 2);
        int[] counts = {0, 2, 2, 0, 7, 8, 0, 0, 0, 0};
        for (int what = 0; what <= 9; what++) {
            check.due("count(" + what + ")", x.count(what), counts[what]);
        }
        check.due("undo()", x.undo(), Check.STATE);
        for (int letter = 0; letter < 2; letter++) {
            check.due("letter(" + letter + ", 4)", x.letter(letter, 4), 1);
        }
        check.due("letter(0, 1)", x.letter(0, 1), 1);
        check.due("letter(1, 1)", x.letter(1, 1), 2);
        check.due("letter(2, 4)", x.letter(2, 4), Check.BAD);
        check.due("kind(0)", x.kind(0), 2);
        check.due("ounces(1)", x.ounces(1), 1);
        check.due("ounces(2)", x.ounces(2), Check.BAD);
    }

    private void firstFault() {
        check.says("FAULTS, the first TOKEN that has one (its first byte),");
        faulty("p1,99;o0;?", 2, 3);
        faulty("p1,9;o10;l64,0;", 2, 6);
        faulty("p1,9;o1;l2,0;q", 2, 9);
        faulty("p1,9;o1;l1,2;l", 2, 11);
        faulty("q1,99;", 1, 0);
        faulty("p123,61;", 1, 1);
        faulty("p12,61", 2, 4);
        faulty("p12,60", 1, 6);
        faulty("p0,0;" + SIX + "o0;", 3, 23);
        faulty("p0,0;" + SIX + "o", 3, 23);
        faulty("p0,0;o1;l0,0;l0,0;l0,0;l0,0;l0,0;l0,0;l0,0;l99", 3, 43);
        faulty("p0,0;o1;l0,0;l0,0;l0,0;l0,0;l0,0;l0,0;l9,0;l", 2, 39);
    }

    private void leastFaultOfOneToken() {
        check.says("of one TOKEN the least:");
        faulty("99,1;", 1, 0);
        faulty("p1,1;99", 1, 5);
        faulty("p1,1;o1;99", 1, 8);
        faulty("p1,610;", 1, 3);
        faulty("p1,1;o100;", 1, 6);
        faulty("p1,1;o1;l640,0;", 1, 9);
        faulty("p1,1;o1;l1,640;", 1, 11);
        faulty("p0,0;" + SIX + "l0,0;o1;", 1, 28);
        faulty("p0,0;" + SIX + "oo", 3, 23);
        faulty("p0,0;o1;o1;o1;o1;o1;oo", 1, 21);
        String seven = "p0,0;o1;l0,0;l0,0;l0,0;l0,0;l0,0;l0,0;l0,";
        faulty(seven + "l0,0;", 1, seven.length());
        faulty(seven + "0;o1;", 1, seven.length() + 2);
    }

    private void threeFigures() {
        check.says("1 it cannot stand there, or is none (a run of three figures, at its first;");
        faulty("p000", 1, 1);
        faulty("p0000", 1, 1);
        faulty("p" + "1".repeat(99), 1, 1);
        faulty("1".repeat(100), 1, 0);
        faulty("p12,123;", 1, 4);
        faulty("p12,1;o1;l12,0;", 2, 10);
        faulty("p12,1;o1;l123,0;", 1, 10);
        faulty("p12,1;o1;l1,0;111", 1, 14);
        // The last figures that there are on the tape: what stood there before must not count.
        LetterOunces x = fed("p12345");
        x.post();
        Check.feedAll(x, "p12");
        check.due("post() of p12 behind p12345", x.post(), -1000103);
    }

    private void end() {
        check.says("the end: how many bytes there are);");
        int[] ends = {24, 29, 34, 40, 46};
        for (int length = 0; length <= 46; length++) {
            int letters = 0;
            for (int k = 0; k < 5; k++) {
                letters = ends[k] == length ? k + 1 : letters;
            }
            if (letters > 0) {
                read(Check.FIVE.substring(0, length), letters);
            } else {
                faulty(Check.FIVE.substring(0, length), 1, length);
            }
        }
        // A whole text with blanks that are no token fills the tape, and its end is never come to.
        faulty(Check.FIVE + " ".repeat(54), 1, 46);
    }

    private void numbersNotAsTold() {
        check.says("2 a NUMBER that is not as told;");
        faulty("p99,61;", 2, 4);
        faulty("p9,60;o0;", 2, 7);
        faulty("p9,60;o10;", 2, 7);
        faulty("p9,60;o9;o0", 2, 10);
        faulty("p9,60;o9;o9;l4", 2, 13);
        faulty("p9,60;o9;o9;l3,4", 2, 15);
        faulty("p9,60;o9;o9;l2,1", 2, 15);
        faulty("p9,60;o9;o9;l2,2;v3,3;w4", 2, 23);
    }

    private void moreThanRoom() {
        check.says("3 a word, a letter more than there is room for (its letter).");
        faulty("p0,0;" + SIX + "o1;l0,0;", 3, 23);
        faulty("p0,0;" + SIX + "o", 3, 23);
        read("p0,0;" + SIX + "l0,0;", 1);
        String seven = "p0,0;o1;l0,0;v0,0;b0,0;c0,0;w0,0;l0,0;v0,0;";
        read(seven, 7);
        faulty(seven + "b", 3, 43);
        faulty(seven + "b0,0;", 3, 43);
        faulty("p99,60;o01;o02;o03;o04;o05;o06;l63,00;v63,00;b63,00;c63,00;w63,00;l63,00;v63,00;w", 3, 80);
        read("p99,60;o01;o02;o03;o04;o05;o06;l63,00;v63,00;b63,00;c63,00;w63,00;l63,00;v63,00;", 7);
    }
}
