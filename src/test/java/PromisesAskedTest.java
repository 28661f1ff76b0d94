/** Promises 30 to 35, sentence by sentence, at their ends. */
final class PromisesAskedTest {
    private static final String SEVEN = "p9,60;o9;o3;w1,0;c1,0;b1,0;v1,0;l1,0;l1,1;w0,0;";

    private final Check check = new Check();

    public static void main(String[] args) {
        PromisesAskedTest test = new PromisesAskedTest();
        test.kind();
        test.kindRefused();
        test.as();
        test.asRefused();
        test.ask();
        test.askRefused();
        test.askEmptiesTheTrace();
        test.trace();
        test.count();
        test.countRefused();
        test.status();
        test.statusOfOthers();
        test.check.end();
    }

    private void kind() {
        check.says(30, "The KIND of a LETTER, as told (1 to 5).");
        LetterOunces x = Check.reading(SEVEN);
        int[] due = {5, 4, 3, 2, 1, 1, 5};
        for (int letter = 0; letter < 7; letter++) {
            check.due("kind(" + letter + ")", x.kind(letter), due[letter]);
        }
        x.days(3);
        x.as(0, 4);
        for (int letter = 0; letter < 7; letter++) {
            check.due("kind(" + letter + ") stays", x.kind(letter), due[letter]);
        }
    }

    private void kindRefused() {
        check.says(30, "BAD.");
        LetterOunces x = Check.reading(SEVEN);
        check.ends("kind(v)", v -> x.kind(v), 0, 6);
        LetterOunces one = Check.reading("p0,0;o1;c1,0;");
        check.ends("kind(v) of one", v -> one.kind(v), 0, 0);
        Sight.refused(check, Setup.BARE, "kind(0)", y -> y.kind(0), Check.BAD);
        Sight.refused(check, Setup.RICH, "kind(5)", y -> y.kind(5), Check.BAD);
    }

    private void as() {
        check.says(31, "A LETTER is taken as one of a KIND (0 .. 5): its number.");
        LetterOunces x = Check.reading(SEVEN);
        for (int letter = 0; letter < 7; letter++) {
            check.due("as(" + letter + ", 0)", x.as(letter, 0), letter);
            check.due("as(" + letter + ", " + x.kind(letter) + ")", x.as(letter, x.kind(letter)), letter);
            check.due("status()", x.status(), 0);
        }
        check.due("a lawyer's as a card", x.as(6, 4), 6);
        check.due("a lover's as a plain one", x.as(3, 1), 3);
        check.due("a boy's as a plain one", x.as(2, 1), 2);
    }

    private void asRefused() {
        check.says(31, "BAD; KIND: it is no such one.");
        LetterOunces x = Check.reading(SEVEN);
        check.ends("as(v, 0)", v -> x.as(v, 0), 0, 6);
        check.ends("as(0, v)", v -> x.as(0, v), 0, Check.BAD, 5, Check.BAD);
        int[][] none = {{0, 1}, {0, 2}, {0, 3}, {1, 1}, {1, 2}, {1, 3}, {1, 5}, {2, 2}, {2, 4}, {2, 5}, {3, 3}, {3, 4},
            {3, 5}, {4, 2}, {4, 3}, {4, 4}, {4, 5}};
        for (int[] d : none) {
            check.due("as(" + d[0] + ", " + d[1] + ")", x.as(d[0], d[1]), Check.KIND);
            check.due("status()", x.status(), 3);
        }
        Sight.refused(check, Setup.BARE, "as(0, 0)", y -> y.as(0, 0), Check.BAD);
        Sight.refused(check, Setup.RICH, "as(5, 0)", y -> y.as(5, 0), Check.BAD);
        Sight.refused(check, Setup.RICH, "as(0, 6)", y -> y.as(0, 6), Check.BAD);
        Sight.refused(check, Setup.RICH, "as(0, -1)", y -> y.as(0, -1), Check.BAD);
        Sight.refused(check, Setup.RICH, "as(3, 5), a card that is no lawyer's", y -> y.as(3, 5), Check.KIND);
    }

    private void ask() {
        check.says(32, "An ASK (0, 1) of a LETTER.");
        LetterOunces x = Check.reading(SEVEN);
        int[] sizes = {-198, -99, -997, -7, 5, 7, -200};
        int[] marks = {198, 100, -998, 6, 4, 6, 206};
        for (int letter = 0; letter < 7; letter++) {
            check.due("ask(" + letter + ", 0)", x.ask(letter, 0), sizes[letter]);
            check.due("ask(" + letter + ", 1)", x.ask(letter, 1), marks[letter]);
        }
        x.days(1);
        check.due("ask(4, 1) of one that is SENT", x.ask(4, 1), marks[4]);
    }

    private void askRefused() {
        check.says(32, "BAD.");
        LetterOunces x = Check.reading(SEVEN);
        check.ends("ask(v, 0)", v -> x.ask(v, 0), 0, 6);
        check.ends("ask(0, v)", v -> x.ask(0, v), 0, 1);
        Sight.refused(check, Setup.BARE, "ask(0, 0)", y -> y.ask(0, 0), Check.BAD);
        Sight.refused(check, Setup.RICH, "ask(5, 0)", y -> y.ask(5, 0), Check.BAD);
        Sight.refused(check, Setup.RICH, "ask(-1, 1)", y -> y.ask(-1, 1), Check.BAD);
        Sight.refused(check, Setup.RICH, "ask(0, 2)", y -> y.ask(0, 2), Check.BAD);
        Sight.refused(check, Setup.RICH, "ask(0, -1)", y -> y.ask(0, -1), Check.BAD);
    }

    private void askEmptiesTheTrace() {
        check.says(32, "THE TRACE is empty ahead of it.");
        LetterOunces x = Check.reading(SEVEN);
        x.ask(3, 0);
        check.due("trace(5)", x.trace(5), 20);
        x.ask(5, 1);
        check.due("trace(0)", x.trace(0), 21);
        check.due("trace(1)", x.trace(1), 20);
        check.due("trace(2)", x.trace(2), Check.NONE);
        check.due("trace(5)", x.trace(5), Check.NONE);
        for (int k = 0; k < 10; k++) {
            x.ask(3, 0);
        }
        check.due("trace(0) of the tenth", x.trace(0), 12);
        check.due("trace(6) of the tenth", x.trace(6), Check.NONE);
    }

    private void trace() {
        check.says(33, "Number i of THE TRACE; NONE.");
        LetterOunces x = Check.reading(SEVEN);
        for (int i = -1; i <= 17; i++) {
            check.due("trace(" + i + ") ahead of an ask", x.trace(i), Check.NONE);
        }
        x.ask(3, 0);
        int[] due = {12, 11, 10, 24, 21, 20};
        for (int i = 0; i <= 17; i++) {
            check.due("trace(" + i + ")", x.trace(i), i < 6 ? due[i] : Check.NONE);
        }
        check.due("trace(-1)", x.trace(-1), Check.NONE);
        check.due("trace(LOW)", x.trace(Check.LOW), Check.NONE);
        check.due("trace(HIGH)", x.trace(Check.HIGH), Check.NONE);
        check.due("trace(256)", x.trace(256), Check.NONE);
        Check.feedAll(x, "p0,0;o1;c1,0;");
        x.post();
        check.due("trace(0) behind another POST", x.trace(0), 12);
        Sight.unchanged(check, Setup.RICH, "trace(0)", y -> y.trace(0));
        Sight.unchanged(check, Setup.RICH, "trace(16)", y -> y.trace(16));
    }

    private void count() {
        check.says(34, "How many: 0 ROWS, 1 WORDS, 2 LETTERS, 3 DAY, 4 STRAP, 5 LIMIT, 6 PAID, 7 LETTERS (bits) that are SENT,"
                + " 8 ACTS that can be undone, 9 bytes on the tape.");
        int[][] due = {{4, 0, 0, 0, 0, 0, 0, 0, 0, 10}, {4, 4, 5, 3, 50, 7, 22, 27, 9, 10},
            {0, 3, 2, 13, 0, 2, 3, 2, 24, 0}, {0, 1, 1, 0, 9, 9, 0, 0, 0, 100}};
        for (Setup setup : Setup.values()) {
            LetterOunces x = setup.made();
            for (int what = 0; what <= 9; what++) {
                check.due(setup + ": count(" + what + ")", x.count(what), due[setup.ordinal()][what]);
            }
        }
        LetterOunces x = new LetterOunces();
        for (int row = 0; row <= 7; row++) {
            x.row(row, 0, 0);
        }
        check.due("count(0) of all ROWS", x.count(0), 8);
        x = Check.reading("p99,60;o1;o1;o1;o1;o1;o1;l1,0;l1,0;l1,0;l1,0;l1,0;l1,0;l1,0;");
        x.days(24);
        int[] most = {0, 6, 7, 24, 99, 60, 7, 127, 24, 0};
        for (int what = 0; what <= 9; what++) {
            check.due("count(" + what + ")", x.count(what), most[what]);
        }
    }

    private void countRefused() {
        check.says(34, "BAD.");
        LetterOunces x = Setup.RICH.made();
        check.ends("count(v)", v -> x.count(v), 0, 9);
        LetterOunces bare = new LetterOunces();
        check.ends("count(v) without a POST", v -> bare.count(v), 0, 9);
        Sight.refused(check, Setup.RICH, "count(10)", y -> y.count(10), Check.BAD);
        Sight.refused(check, Setup.BARE, "count(-1)", y -> y.count(-1), Check.BAD);
    }

    /** What status() is behind a call, from each finding on and from none. */
    private void status() {
        check.says(35, "Of the latest call with a ROW, or as(), that was not BAD, STATE, FULL: the number of its FINDING;");
        for (int before = 0; before <= 5; before++) {
            LetterOunces x = found(before);
            check.due("status()", x.status(), before);
            check.due("status() again", x.status(), before);
            x.row(8, 0, 1);
            x.row(0, 0, 41);
            x.set(8, 0, 1);
            x.copy(8, 0, 1, 0, 1);
            x.drop(-1);
            x.fits(5, 1, 0, 1, 0);
            x.fits(0, 1, 0, 13, 0);
            x.as(5, 0);
            x.as(0, 6);
            check.due("status() behind BAD ones is still " + before, x.status(), before);
            x.row(0, 0, -1);
            check.due("status() of row()", x.status(), 4);
            x.set(1, 4, 0);
            check.due("status() of set()", x.status(), 2);
            x.copy(1, 0, 5, 0, 1);
            check.due("status() of copy()", x.status(), 5);
            x.drop(0);
            check.due("status() of drop()", x.status(), 1);
            x.fits(0, 1, 4, 1, 0);
            check.due("status() of fits()", x.status(), 2);
            x.as(0, 2);
            check.due("status() of as()", x.status(), 3);
        }
    }

    private static LetterOunces found(int finding) {
        LetterOunces x = Setup.RICH.made();
        switch (finding) {
            case 1:
                x.drop(0);
                break;
            case 2:
                x.set(1, -1, 0);
                break;
            case 3:
                x.as(0, 5);
                break;
            case 4:
                x.row(0, 0, -1);
                break;
            case 5:
                x.copy(1, 0, 7, 0, 0);
                break;
            default:
                x.as(0, 1);
        }
        return x;
    }

    private void statusOfOthers() {
        check.says(35, "0: it had none, or there was none.");
        check.due("status() of a new object", new LetterOunces().status(), 0);
        for (int finding = 1; finding <= 5; finding++) {
            LetterOunces x = found(finding);
            x.feed(1);
            x.post();
            x.days(1);
            x.say(9, 9);
            x.undo();
            x.letter(0, 0);
            x.ahead(0, 0, 0);
            x.load(0, 0);
            x.image(0);
            x.restore(0);
            x.kind(0);
            x.ask(0, 0);
            x.trace(0);
            x.count(0);
            check.due("status() behind calls without a ROW", x.status(), finding);
            x.row(2, 0, 0);
            check.due("status() behind row()", x.status(), 0);
            x = found(finding);
            x.set(1, 3, 0);
            check.due("status() behind set()", x.status(), 0);
            x = found(finding);
            x.copy(1, 4, 1, 0, 0);
            check.due("status() behind copy()", x.status(), 0);
            x = found(finding);
            x.drop(6);
            check.due("status() behind drop()", x.status(), 0);
            x = found(finding);
            x.fits(0, 1, 3, 1, 4);
            check.due("status() behind fits()", x.status(), 0);
            x = found(finding);
            x.as(0, 1);
            check.due("status() behind as()", x.status(), 0);
        }
    }
}
