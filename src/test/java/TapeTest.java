/** Promises 6 to 8. */
final class TapeTest {
    private static final String LAW = "p1,1;", WORDS = "p1,1;o1;o1;";

    public static void main(String[] args) {
        Check check = new Check();
        promise6feed(check);
        promise7post(check);
        lawFaults(check);
        wordFaults(check);
        letterFaults(check);
        foreignBytes(check);
        postInPlaceOfAnother(check);
        promise8fault(check);
        check.end();
    }

    private static void promise6feed(Check check) {
        LetterOunces x = new LetterOunces();
        check.due("feed(-1)", x.feed(-1), Check.BAD);
        check.due("feed(256)", x.feed(256), Check.BAD);
        check.due("feed(0)", x.feed(0), 1);
        check.due("feed(255)", x.feed(255), 2);
        for (int n = 3; n <= 100; n++) {
            check.due("feed(48)", x.feed(48), n);
        }
        check.due("feed(48) beyond 100", x.feed(48), Check.FULL);
        check.due("feed(256) beyond 100: BAD is ahead", x.feed(256), Check.BAD);
        check.due("count(9)", x.count(9), 100);
        check.due("post() empties it", x.post(), Check.FAULTY);
        check.due("count(9) then", x.count(9), 0);
        check.due("feed(48) then", x.feed(48), 1);
    }

    private static void read(Check check, String text, int due) {
        LetterOunces x = new LetterOunces();
        Check.feedAll(x, text);
        check.due("post() of " + text, x.post(), due);
        check.due("count(9) behind " + text, x.count(9), 0);
        check.due("count(2) behind " + text, x.count(2), Math.max(due, 0));
    }

    private static void faulty(Check check, String text, int place, int number) {
        LetterOunces x = new LetterOunces();
        Check.feedAll(x, text);
        check.due("post() of " + text, x.post(), Check.FAULTY - place);
        check.due("fault() of " + text, x.fault(), number);
        check.due("count(9) behind " + text, x.count(9), 0);
        check.due("count(2) behind " + text, x.count(2), 0);
    }

    private static void promise7post(Check check) {
        read(check, "p0,0;o1;l0,0;", 1);
        read(check, "p99,60;o9;o9;o9;o9;o9;o9;l63,63;v63,0;b63,1;c63,32;w63,62;l0,0;v32,32;", 7);
        read(check, "p00,07;o01;l01,00;", 1);
        LetterOunces x = Check.reading("p34,56;o1;o2;o9;l5,4;w7,0;");
        int[] counts = {0, 3, 2, 0, 34, 56, 0, 0, 0, 0};
        for (int what = 0; what <= 9; what++) {
            check.due("count(" + what + ")", x.count(what), counts[what]);
        }
        check.due("kind(0)", x.kind(0), 1);
        check.due("kind(1)", x.kind(1), 5);
        check.due("letter(0, 0)", x.letter(0, 0), 5);
        check.due("letter(0, 1)", x.letter(0, 1), 4);
        check.due("letter(1, 0)", x.letter(1, 0), 7);
        check.due("ounces(2)", x.ounces(2), 9);
    }

    private static void lawFaults(Check check) {
        faulty(check, "", 0, 1);
        faulty(check, "p", 1, 1);
        faulty(check, "o1;", 0, 1);
        faulty(check, "1", 0, 1);
        faulty(check, ";", 0, 1);
        faulty(check, "pp", 1, 1);
        faulty(check, "p,", 1, 1);
        faulty(check, "p100,1;", 1, 1);
        faulty(check, "p0000,1;", 1, 1);
        faulty(check, "p99", 3, 1);
        faulty(check, "p9;", 2, 1);
        faulty(check, "p9,", 3, 1);
        faulty(check, "p9,61;", 3, 2);
        faulty(check, "p9,99x", 3, 2);
        faulty(check, "p9,610", 3, 1);
        faulty(check, "p9,60", 5, 1);
        faulty(check, "p9,60,", 5, 1);
        faulty(check, LAW, 5, 1);
        faulty(check, LAW + "l0,0;", 5, 1);
        faulty(check, LAW + "p1,1;", 5, 1);
        faulty(check, LAW + "5", 5, 1);
    }

    private static void wordFaults(Check check) {
        faulty(check, LAW + "o", 6, 1);
        faulty(check, LAW + "oo", 6, 1);
        faulty(check, LAW + "o0;", 6, 2);
        faulty(check, LAW + "o10;", 6, 2);
        faulty(check, LAW + "o99", 6, 2);
        faulty(check, LAW + "o001;", 6, 1);
        faulty(check, LAW + "o9", 7, 1);
        faulty(check, LAW + "o9,", 7, 1);
        faulty(check, LAW + "o9;", 8, 1);
        faulty(check, LAW + "o9;x", 8, 1);
        String six = LAW + "o1;o1;o1;o1;o1;o1;";
        faulty(check, six, 23, 1);
        faulty(check, six + "o", 23, 3);
        faulty(check, six + "o1;l0,0;", 23, 3);
        faulty(check, six + "p", 23, 1);
        read(check, six + "l63,63;", 1);
    }

    private static void letterFaults(Check check) {
        faulty(check, WORDS + "l", 12, 1);
        faulty(check, WORDS + "l,", 12, 1);
        faulty(check, WORDS + "l4,0;", 12, 2);
        faulty(check, WORDS + "l64,0;", 12, 2);
        faulty(check, WORDS + "l99", 12, 2);
        faulty(check, WORDS + "l003,0;", 12, 1);
        faulty(check, WORDS + "l3", 13, 1);
        faulty(check, WORDS + "l3;", 13, 1);
        faulty(check, WORDS + "l3,", 14, 1);
        faulty(check, WORDS + "l2,1;", 14, 2);
        faulty(check, WORDS + "l0,3;", 14, 2);
        faulty(check, WORDS + "l3,4;", 14, 2);
        faulty(check, WORDS + "l3,64;", 14, 2);
        faulty(check, WORDS + "l3,3", 15, 1);
        faulty(check, WORDS + "l3,3,", 15, 1);
        faulty(check, WORDS + "l3,3;o1;", 16, 1);
        faulty(check, WORDS + "l3,3;p", 16, 1);
        faulty(check, WORDS + "l3,3;;", 16, 1);
        String seven = WORDS + "l1,0;v1,0;b1,0;c1,0;w1,0;l1,0;v1,0;";
        read(check, seven, 7);
        faulty(check, seven + "l", 46, 3);
        faulty(check, seven + "w1,0;", 46, 3);
        faulty(check, seven + "o1;", 46, 1);
        faulty(check, seven + "z", 46, 1);
    }

    private static void foreignBytes(Check check) {
        faulty(check, " p1,1;o1;l0,0;", 0, 1);
        faulty(check, "p 1,1;o1;l0,0;", 1, 1);
        faulty(check, "p1,1;o1;L0,0;", 8, 1);
        faulty(check, "p1,1;o1;l0,0;\n", 13, 1);
        faulty(check, "p1,1;o1;l0,0;" + (char) 0, 13, 1);
        faulty(check, "p1,1;o1;l0,0;" + (char) 255, 13, 1);
        faulty(check, "p1,-1;", 3, 1);
        faulty(check, "p1,/;", 3, 1);
        faulty(check, "p1,:;", 3, 1);
        for (char c = 0; c < 256; c++) {
            boolean isSort = "lvbcw".indexOf(c) >= 0;
            if (!isSort && c != 'o') {
                faulty(check, WORDS + c + "0,0;", 11, 1);
            }
        }
    }

    private static void postInPlaceOfAnother(Check check) {
        LetterOunces x = Check.reading(Check.FIVE);
        x.days(3);
        x.say(3, 0);
        Check.feedAll(x, "p1,1;o1;q");
        check.due("post() with a fault", x.post(), Check.FAULTY - 8);
        check.due("all stays: DAY", x.count(3), 3);
        check.due("all stays: ACTS", x.count(8), 4);
        check.due("all stays: PAID", x.count(6), 23);
        check.due("all stays: WORDS", x.count(1), 4);
        check.due("all stays: SAID", x.letter(3, 1), 1);
        Check.feedAll(x, "p1,2;o4;l1,0;c1,0;");
        check.due("post()", x.post(), 2);
        int[] counts = {0, 1, 2, 0, 1, 2, 0, 0, 0, 0};
        for (int what = 0; what <= 9; what++) {
            check.due("anew: count(" + what + ")", x.count(what), counts[what]);
        }
        check.due("anew: undo()", x.undo(), Check.STATE);
        check.due("anew: letter(1, 4)", x.letter(1, 4), 1);
        check.due("anew: letter(2, 0)", x.letter(2, 0), Check.BAD);
        check.due("anew: ounces(1)", x.ounces(1), Check.BAD);
    }

    private static void promise8fault(Check check) {
        LetterOunces x = new LetterOunces();
        check.due("fault() at first", x.fault(), 0);
        Check.feedAll(x, "p1,99;");
        x.post();
        check.due("fault() of a number", x.fault(), 2);
        Check.feedAll(x, "p1,9;o1;l1,1;");
        check.due("post()", x.post(), 1);
        check.due("fault() is the latest one's", x.fault(), 2);
        x.post();
        check.due("fault() of the end", x.fault(), 1);
    }
}
