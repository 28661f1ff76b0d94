/** Promises 25 to 29: what fits, slips, draws, images. */
final class ChancesTest {
    public static void main(String[] args) {
        Check check = new Check();
        promise25fits(check);
        promise25fitsByTheOthers(check);
        promise25fitsOfOneSent(check);
        promise25fitsRefused(check);
        promise26slips(check);
        promise26slipsRefused(check);
        promise27drawn(check);
        promise27drawnRefused(check);
        promise28image(check);
        promise29restore(check);
        check.end();
    }

    private static void fits(Check check, LetterOunces x, int n, int... due) {
        for (int what = 0; what < due.length; what++) {
            check.due("fits(0, 0, 0, " + n + ", " + what + ")", x.fits(0, 0, 0, n, what), due[what]);
        }
    }

    private static void promise25fits(Check check) {
        LetterOunces x = Check.reading("p0,4;o3;o5;l3,0;");
        for (int lane = 0; lane <= 2; lane++) {
            x.row(0, lane, 12);
            Check.setAll(x, 0, 3, 3, 3, 3, 3, 3, 3, 3, 3, 3, 3, 3);
            fits(check, x, 1, 2 | 8, 2, 0, 8, 0);
            fits(check, x, 2, 2 | 8, 2, 0, 5, 3);
            fits(check, x, 12, 2 | 8, 2, 0, 5, 3);
        }
        Check.setAll(x, 0, 3, 0);
        fits(check, x, 2, 0, 0, Check.NONE, 3, 0);
        Check.setAll(x, 0, 10, 0);
        fits(check, x, 1, 4, 0, Check.NONE, 0, Check.NONE);
        fits(check, x, 2, 4, 0, Check.NONE, 0, Check.NONE);
        Check.setAll(x, 0, 4, 4);
        fits(check, x, 2, 16, 0, Check.NONE, 0, Check.NONE);
        Check.setAll(x, 0, 0, 0);
        fits(check, x, 2, 32, 2, 1, 0, Check.NONE);
        check.due("fits(0, 0, 2, 1, 0) from place 2 on", x.fits(0, 0, 2, 1, 0), 2 | 8);
        check.due("fits(0, 0, 0, 3, 0) of 0, 0, 3", x.fits(0, 0, 0, 3, 0), 0);
    }

    private static void promise25fitsByTheOthers(Check check) {
        // The other letter is taken first; by a lower limit it blurts and leaves more of the strap.
        LetterOunces x = Check.reading("p9,8;o8;o4;l1,0;l2,0;");
        x.row(0, 0, 2);
        Check.setAll(x, 0, 4, 4);
        check.due("LIMITS of 4, 4", x.fits(1, 0, 0, 2, 3), 57);
        check.due("the least", x.fits(1, 0, 0, 2, 4), 4);
        x = Check.reading("p10,3;o7;o5;l1,0;l2,0;");
        x.row(0, 0, 1);
        check.due("SAIDS of 0", x.fits(0, 0, 0, 1, 1), 2);
        x.limit(6);
        Check.setAll(x, 0, 0);
        check.due("LIMITS of 0", x.fits(0, 0, 0, 1, 3), 7);
    }

    private static void promise25fitsOfOneSent(Check check) {
        LetterOunces x = Check.reading("p99,60;o3;o5;l3,0;");
        x.days(1);
        x.limit(0);
        x.row(0, 1, 2);
        Check.setAll(x, 0, 8, 8);
        fits(check, x, 2, 2, 1, 0, 61, 0);
        Check.setAll(x, 0, 5, 5);
        fits(check, x, 2, 0, 1, 1, 0, Check.NONE);
    }

    private static void promise25fitsRefused(Check check) {
        LetterOunces x = Check.reading(Check.FIVE);
        x.row(0, 0, 12);
        check.due("fits(5, 0, 0, 1, 0)", x.fits(5, 0, 0, 1, 0), Check.BAD);
        check.due("fits(-1, 0, 0, 1, 0)", x.fits(-1, 0, 0, 1, 0), Check.BAD);
        check.due("fits(0, 8, 0, 1, 0)", x.fits(0, 8, 0, 1, 0), Check.BAD);
        check.due("fits(0, -1, 0, 1, 0)", x.fits(0, -1, 0, 1, 0), Check.BAD);
        check.due("fits(0, 0, 0, 0, 0)", x.fits(0, 0, 0, 0, 0), Check.BAD);
        check.due("fits(0, 0, 0, 13, 0)", x.fits(0, 0, 0, 13, 0), Check.BAD);
        check.due("fits(0, 0, 0, 1, 5)", x.fits(0, 0, 0, 1, 5), Check.BAD);
        check.due("fits(0, 0, 0, 1, -1)", x.fits(0, 0, 0, 1, -1), Check.BAD);
        check.due("fits(0, 1, 0, 13, 0): BAD is ahead", x.fits(0, 1, 0, 13, 0), Check.BAD);
        check.due("fits(0, 1, 0, 1, 0)", x.fits(0, 1, 0, 1, 0), Check.NULL);
        check.due("fits(0, 1, -1, 1, 0): NULL is ahead", x.fits(0, 1, -1, 1, 0), Check.NULL);
        check.due("fits(0, 0, -1, 1, 0)", x.fits(0, 0, -1, 1, 0), Check.PLACE);
        check.due("fits(0, 0, 12, 1, 0)", x.fits(0, 0, 12, 1, 0), Check.PLACE);
        check.due("fits(0, 0, 1, 12, 0)", x.fits(0, 0, 1, 12, 0), Check.PLACE);
        check.due("fits(0, 0, 2147483647, 12, 0)", x.fits(0, 0, 2147483647, 12, 0), Check.PLACE);
        check.due("fits(0, 0, 0, 12, 0)", x.fits(0, 0, 0, 12, 0), 0);
    }

    private static void slips(Check check, LetterOunces x, int w, int n, int c, int above, int below) {
        String call = "slips(0, " + w + ", " + n + ", " + c + ", ";
        check.due(call + "0)", x.slips(0, w, n, c, 0), above);
        check.due(call + "1)", x.slips(0, w, n, c, 1), below);
    }

    private static void promise26slips(Check check) {
        LetterOunces x = Check.reading("p0,0;o1;o2;o4;l7,0;");
        slips(check, x, 3, 0, 5, 1, 2);
        slips(check, x, 99, 0, 5, 1, 1);
        slips(check, x, 0, 0, 5, 1, 8);
        slips(check, x, 0, 0, 1, 1, 1000);
        slips(check, x, 3, 0, 3, 3, 10);
        slips(check, x, 0, 0, 10, 1, 1);
        slips(check, x, 0, 0, 0, 0, 1);
        slips(check, x, 7, 0, 0, 1, 1);
        slips(check, x, 0, 1, 5, 1, 2);
        slips(check, x, 0, 3, 0, 1, 1);
        slips(check, x, 0, 30, 7, 1, 1);
        // Two of the three have to slip out, and the third is blurted; or all three slip out: 104 of 1000.
        slips(check, x, 0, 1, 2, (3 * 4 * 8 + 8) / 8, 1000 / 8);
        x.say(0, 0);
        slips(check, x, 2, 0, 3, 3, 10);
        slips(check, x, 0, 0, 3, 9, 100);
        x = Check.reading("p0,60;o9;o9;o9;o9;o9;o9;l63,0;");
        slips(check, x, 0, 0, 1, 1, 1000000);
        slips(check, x, 45, 0, 1, 468559, 1000000);
        // A boy's that slips one word is lighter by 1 beside.
        x = Check.reading("p0,60;o1;b1,0;");
        slips(check, x, 1, 0, 4, 2, 5);
        slips(check, x, 0, 0, 4, 2, 5);
        // What it slips may have it sent sooner, and so blurt less.
        x = Check.reading("p5,4;o5;o6;l3,0;");
        slips(check, x, 4, 2, 5, 3, 4);
    }

    private static void promise26slipsRefused(Check check) {
        LetterOunces x = Check.reading(Check.FIVE);
        check.due("slips(5, 0, 0, 0, 0)", x.slips(5, 0, 0, 0, 0), Check.BAD);
        check.due("slips(-1, 0, 0, 0, 0)", x.slips(-1, 0, 0, 0, 0), Check.BAD);
        check.due("slips(0, 100, 0, 0, 0)", x.slips(0, 100, 0, 0, 0), Check.BAD);
        check.due("slips(0, -1, 0, 0, 0)", x.slips(0, -1, 0, 0, 0), Check.BAD);
        check.due("slips(0, 0, 31, 0, 0)", x.slips(0, 0, 31, 0, 0), Check.BAD);
        check.due("slips(0, 0, -1, 0, 0)", x.slips(0, 0, -1, 0, 0), Check.BAD);
        check.due("slips(0, 0, 0, 11, 0)", x.slips(0, 0, 0, 11, 0), Check.BAD);
        check.due("slips(0, 0, 0, -1, 0)", x.slips(0, 0, 0, -1, 0), Check.BAD);
        check.due("slips(0, 0, 0, 0, 2)", x.slips(0, 0, 0, 0, 2), Check.BAD);
        check.due("slips(0, 0, 0, 0, -1)", x.slips(0, 0, 0, 0, -1), Check.BAD);
    }

    /** From seed 1 on X is 16807, 282475249, 1622650073, 984943658, 1144108930, 470211272, 101027544. */
    private static void promise27drawn(Check check) {
        LetterOunces x = Check.reading("p5,60;o6;l1,0;");
        int[] paid = {0, 6, 6, 6, 6, 6, 6, 12};
        for (int n = 0; n <= 7; n++) {
            check.due("drawn(" + n + ", 1, 0)", x.drawn(n, 1, 0), paid[n]);
            check.due("drawn(" + n + ", 1, 1)", x.drawn(n, 1, 1), n == 0 ? 0 : 1);
        }
        x.strap(6);
        x.days(1);
        check.due("PAID", x.count(6), 6);
        check.due("drawn(6, 1, 0): PAID by these", x.drawn(6, 1, 0), 0);
        check.due("drawn(7, 1, 0): PAID by these", x.drawn(7, 1, 0), 6);
        check.due("drawn(0, 1, 1): SENT at last", x.drawn(0, 1, 1), 1);
        check.due("STRAP stays", x.count(4), 6);
        check.due("DAY stays", x.count(3), 1);
        x = Check.reading("p5,60;o6;l1,1;");
        check.due("drawn(6, 1, 0) of one that said all", x.drawn(6, 1, 0), 0);
        check.due("drawn(7, 1, 0): it is taken back", x.drawn(7, 1, 0), 6);
        // 16807 leaves 7 by 30: a strap of 7, and 19 the day behind.
        x = Check.reading("p5,60;o8;o7;l1,0;l2,0;");
        check.due("drawn(1, 1, 0)", x.drawn(1, 1, 0), 7);
        check.due("drawn(2, 1, 0)", x.drawn(2, 1, 0), 15);
        check.due("drawn(2, 1, 1)", x.drawn(2, 1, 1), 2);
        // Of seed 3 X is 50421 at first: 3 divides it, 2 does not; by 2 it leaves letter 1.
        x = Check.reading("p99,60;o8;o7;l1,1;l2,2;");
        x.days(1);
        x.unsay(1, 1);
        check.due("drawn(1, 3, 0): returned, with a strap of 21", x.drawn(1, 3, 0), 7);
        x.say(1, 1);
        check.due("drawn(1, 3, 0): what it SAID stays", x.drawn(1, 3, 0), 0);
        // Of seed 6 X is 100842 at first: 6 divides it; by 2 it leaves letter 0; a strap of 12.
        check.due("drawn(1, 6, 0): all is taken back", x.drawn(1, 6, 0), 8);
    }

    private static void promise27drawnRefused(Check check) {
        check.due("drawn(61, 0, 0) without a POST", new LetterOunces().drawn(61, 0, 0), Check.STATE);
        LetterOunces x = Check.reading(Check.FIVE);
        check.due("drawn(61, 1, 0)", x.drawn(61, 1, 0), Check.BAD);
        check.due("drawn(-1, 1, 0)", x.drawn(-1, 1, 0), Check.BAD);
        check.due("drawn(0, 0, 0)", x.drawn(0, 0, 0), Check.BAD);
        check.due("drawn(0, -7, 0)", x.drawn(0, -7, 0), Check.BAD);
        check.due("drawn(0, 1000000, 0)", x.drawn(0, 1000000, 0), Check.BAD);
        check.due("drawn(0, 999999, 0)", x.drawn(0, 999999, 0), 0);
        check.due("drawn(0, 1, 2)", x.drawn(0, 1, 2), Check.BAD);
        check.due("drawn(0, 1, -1)", x.drawn(0, 1, -1), Check.BAD);
    }

    private static void promise28image(Check check) {
        LetterOunces x = new LetterOunces();
        check.due("image(2) without a POST: BAD is ahead", x.image(2), Check.BAD);
        check.due("image(-1) without a POST", x.image(-1), Check.BAD);
        check.due("image(0) without a POST", x.image(0), Check.STATE);
        x = Check.reading(Check.FIVE);
        check.due("image(2)", x.image(2), Check.BAD);
        x.days(1);
        check.due("image(1)", x.image(1), 1);
        check.due("it is no ACT", x.count(8), 1);
        check.due("restore(0)", x.restore(0), Check.STATE);
        check.due("undo() behind it", x.undo(), 0);
        x.days(2);
        check.due("image(1) in place of it", x.image(1), 1);
        x.undo();
        x.restore(1);
        check.due("DAY", x.count(3), 2);
    }

    private static void promise29restore(Check check) {
        LetterOunces x = new LetterOunces();
        check.due("restore(2)", x.restore(2), Check.BAD);
        check.due("restore(-1)", x.restore(-1), Check.BAD);
        check.due("restore(0)", x.restore(0), Check.STATE);
        x = Check.reading(Check.FIVE);
        x.image(0);
        x.days(2);
        x.say(3, 3);
        x.strap(50);
        x.limit(7);
        x.image(1);
        Check.feedAll(x, "p1,2;o4;l1,0;");
        x.post();
        check.due("restore(0)", x.restore(0), 1);
        int[] first = {0, 4, 5, 0, 12, 4, 0, 0, 0, 0};
        int[] second = {0, 4, 5, 2, 50, 7, 16, 23, 0, 0};
        for (int what = 0; what <= 9; what++) {
            check.due("count(" + what + ") of image 0", x.count(what), first[what]);
        }
        check.due("undo() behind it", x.undo(), Check.STATE);
        check.due("letter(3, 1) of image 0", x.letter(3, 1), 0);
        check.due("kind(4) of image 0", x.kind(4), 5);
        check.due("ounces(3) of image 0", x.ounces(3), 2);
        x.days(5);
        check.due("restore(1)", x.restore(1), 1);
        for (int what = 0; what <= 9; what++) {
            check.due("count(" + what + ") of image 1", x.count(what), second[what]);
        }
        check.due("letter(3, 1) of image 1", x.letter(3, 1), 8);
        check.due("restore(0) again", x.restore(0), 1);
        check.due("DAY of image 0 again", x.count(3), 0);
    }
}
