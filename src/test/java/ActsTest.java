/** Promises 9 to 15. */
final class ActsTest {
    public static void main(String[] args) {
        Check check = new Check();
        promise9days(check);
        promise9daysFull(check);
        promise10say(check);
        promise11unsay(check);
        promise12back(check);
        promise13strap(check);
        promise14limit(check);
        promise15undo(check);
        promise15undoForgetsTheOldest(check);
        check.end();
    }

    private static void promise9days(Check check) {
        LetterOunces x = new LetterOunces();
        check.due("days(0) without a POST", x.days(0), Check.STATE);
        x = Check.reading(Check.FIVE);
        check.due("days(0)", x.days(0), Check.BAD);
        check.due("days(-1)", x.days(-1), Check.BAD);
        check.due("days(25)", x.days(25), Check.BAD);
        check.due("days(1)", x.days(1), 19);
        check.due("PAID", x.count(6), 8);
        check.due("days(1) again: all that are SENT", x.days(1), 23);
        check.due("PAID", x.count(6), 16);
        check.due("days(24)", x.days(24), 31);
        check.due("PAID", x.count(6), 23);
        check.due("DAY", x.count(3), 26);
        check.due("the boy's waited till it was blurted no more", x.letter(2, 1), 2);
    }

    private static void promise9daysFull(Check check) {
        LetterOunces x = Check.reading("p0,60;o1;l1,0;");
        for (int k = 0; k < 416; k++) {
            x.days(24);
        }
        check.due("DAY", x.count(3), 9984);
        check.due("days(16)", x.days(16), Check.FULL);
        check.due("days(25): BAD is ahead", x.days(25), Check.BAD);
        check.due("DAY stays", x.count(3), 9984);
        check.due("days(15)", x.days(15), 0);
        check.due("DAY", x.count(3), 9999);
        check.due("days(1)", x.days(1), Check.FULL);
        check.due("later(60, 1) goes beyond", x.later(60, 1), 0);
        check.due("undo()", x.undo(), 23);
        check.due("days(1) then", x.days(1), 0);
    }

    private static void promise10say(Check check) {
        LetterOunces x = Check.reading(Check.FIVE);
        check.due("say(5, 0)", x.say(5, 0), Check.BAD);
        check.due("say(-1, 0)", x.say(-1, 0), Check.BAD);
        check.due("say(0, 4)", x.say(0, 4), Check.BAD);
        check.due("say(0, -1)", x.say(0, -1), Check.BAD);
        check.due("say(0, 32)", x.say(0, 32), Check.BAD);
        check.due("say(0, 0), which is SAID", x.say(0, 0), Check.STATE);
        check.due("say(1, 3), which it would not", x.say(1, 3), Check.STATE);
        check.due("no ACT yet", x.count(8), 0);
        check.due("say(0, 2)", x.say(0, 2), 7);
        check.due("say(1, 2)", x.say(1, 2), 0);
        check.due("say(2, 0): the boy's 1 goes, too", x.say(2, 0), 10);
        check.due("say(3, 1)", x.say(3, 1), 5);
        check.due("say(4, 0)", x.say(4, 0), 0);
        check.due("five ACTS", x.count(8), 5);
        x.days(1);
        check.due("say(0, 1) of one that is SENT: blurted", x.say(0, 1), Check.STATE);
        check.due("say(0, 3) of one that is SENT", x.say(0, 3), 0);
    }

    private static void promise11unsay(Check check) {
        LetterOunces x = Check.reading(Check.FIVE);
        check.due("unsay(5, 0)", x.unsay(5, 0), Check.BAD);
        check.due("unsay(0, 4)", x.unsay(0, 4), Check.BAD);
        check.due("unsay(0, -1)", x.unsay(0, -1), Check.BAD);
        check.due("unsay(0, 1), which is UNSAID", x.unsay(0, 1), Check.STATE);
        check.due("unsay(1, 0), which it would not", x.unsay(1, 0), Check.STATE);
        check.due("unsay(0, 0)", x.unsay(0, 0), 15);
        check.due("unsay(0, 0) again", x.unsay(0, 0), Check.STATE);
        check.due("unsay(1, 1)", x.unsay(1, 1), 20);
        x.say(2, 2);
        check.due("unsay(2, 2): the boy's 1 comes back", x.unsay(2, 2), 14);
        check.due("unsay(4, 3)", x.unsay(4, 3), 2);
        check.due("ACTS", x.count(8), 5);
    }

    private static void promise12back(Check check) {
        LetterOunces x = Check.reading(Check.FIVE);
        check.due("back(5)", x.back(5), Check.BAD);
        check.due("back(-1)", x.back(-1), Check.BAD);
        check.due("back(0)", x.back(0), Check.STATE);
        x.days(1);
        check.due("back(0)", x.back(0), 7);
        check.due("back(0) again", x.back(0), Check.STATE);
        check.due("back(2)", x.back(2), Check.STATE);
        check.due("it WAITS", x.letter(0, 4), 1);
        check.due("SENT", x.count(7), 18);
        check.due("PAID stays", x.count(6), 8);
        check.due("days(1): it blurts again, and the boy's goes with it", x.days(1), 23);
        check.due("PAID anew", x.count(6), 8 + 2 + 8);
    }

    private static void promise13strap(Check check) {
        LetterOunces x = new LetterOunces();
        check.due("strap(100) without a POST", x.strap(100), Check.STATE);
        x = Check.reading(Check.FIVE);
        check.due("strap(-1)", x.strap(-1), Check.BAD);
        check.due("strap(100)", x.strap(100), Check.BAD);
        check.due("strap(99)", x.strap(99), 12);
        check.due("strap(0)", x.strap(0), 99);
        check.due("count(4)", x.count(4), 0);
        check.due("days(1) by 0", x.days(1), 2);
        check.due("strap(0) is an ACT", x.strap(0), 0);
        check.due("ACTS", x.count(8), 4);
    }

    private static void promise14limit(Check check) {
        LetterOunces x = new LetterOunces();
        check.due("limit(61) without a POST", x.limit(61), Check.STATE);
        x = Check.reading(Check.FIVE);
        check.due("limit(-1)", x.limit(-1), Check.BAD);
        check.due("limit(61)", x.limit(61), Check.BAD);
        check.due("limit(60)", x.limit(60), 4);
        check.due("limit(0)", x.limit(0), 60);
        check.due("count(5)", x.count(5), 0);
        check.due("the lawyer would tell all", x.letter(4, 5), 7);
        check.due("ACTS", x.count(8), 2);
    }

    private static int[] all(LetterOunces x) {
        int[] all = new int[16];
        for (int letter = 0; letter < 5; letter++) {
            all[letter] = x.letter(letter, 1);
        }
        for (int what = 0; what <= 9; what++) {
            all[5 + what] = x.count(what);
        }
        return all;
    }

    private static void promise15undo(Check check) {
        LetterOunces x = Check.reading(Check.FIVE);
        check.due("undo() of none", x.undo(), Check.STATE);
        int[][] states = new int[10][];
        states[0] = all(x);
        x.days(1);
        states[1] = all(x);
        x.say(3, 0);
        states[2] = all(x);
        x.unsay(0, 0);
        states[3] = all(x);
        x.back(1);
        states[4] = all(x);
        x.strap(0);
        states[5] = all(x);
        x.limit(0);
        states[6] = all(x);
        x.days(2);
        for (int kept = 7; kept >= 0; kept--) {
            check.due("undo()", x.undo(), kept);
            if (kept < 7) {
                int[] now = all(x);
                for (int i = 0; i < now.length; i++) {
                    check.due("behind it, " + kept + ": " + i, now[i], states[kept][i]);
                }
            }
        }
        check.due("undo() of none", x.undo(), Check.STATE);
        x.strap(100);
        x.say(0, 0);
        check.due("what is refused is no ACT", x.undo(), Check.STATE);
    }

    private static void promise15undoForgetsTheOldest(Check check) {
        LetterOunces x = Check.reading(Check.FIVE);
        x.days(24);
        check.due("ACTS", x.count(8), 24);
        x.days(2);
        x.strap(1);
        check.due("ACTS: 24 at most", x.count(8), 24);
        for (int kept = 23; kept >= 0; kept--) {
            check.due("undo()", x.undo(), kept);
        }
        check.due("undo() of none", x.undo(), Check.STATE);
        check.due("DAY: three are forgotten", x.count(3), 3);
        check.due("STRAP", x.count(4), 12);
        check.due("PAID", x.count(6), 23);
    }
}
