import java.util.function.Consumer;

/** Part 2 of the document's Terms, sentence by sentence: weights, days, what is paid, and acts. */
final class Terms2Test {
    private static final String[] SORTS = {"l", "v", "b", "c", "w"};

    private final Check check = new Check();

    public static void main(String[] args) {
        Terms2Test test = new Terms2Test();
        test.unsaid();
        test.plainWeight();
        test.loversWeight();
        test.boysWeight();
        test.cardsWeight();
        test.lawyersWeight();
        test.aboveTheLimit();
        test.blurtsAsTheDayBegins();
        test.plainBlurts();
        test.loversBlurts();
        test.boysBlurts();
        test.cardsBlurts();
        test.lawyersBlurts();
        test.thePostman();
        test.sentAndPaid();
        test.paidAtMost();
        test.actsKept();
        test.eachActIsUndone();
        test.check.end();
    }

    private void unsaid() {
        check.says("UNSAID of a LETTER are WORDS of WOULD that are not SAID.");
        for (int would = 0; would <= 63; would++) {
            for (int said = 0; said <= would; said++) {
                if ((would | said) == would) {
                    LetterOunces x = Check.reading("p0,0;o1;o1;o1;o1;o1;o1;l" + would + "," + said + ";");
                    check.due("UNSAID of " + would + ", " + said, x.letter(0, 2), would - said);
                }
            }
        }
    }

    /** Weights of letters of a sort, with words of 9, 1, 1, 9, 1 and 9 ounces: by WOULD and SAID. */
    private void weighs(String sort, int would, int said, int due) {
        LetterOunces x = Check.reading("p0,60;o9;o1;o1;o9;o1;o9;" + sort + would + "," + said + ";");
        check.due("WEIGHT of " + sort + would + "," + said, x.letter(0, 3), due);
    }

    private void plainWeight() {
        check.says("WEIGHT of a plain one: OUNCES of all UNSAID, together;");
        weighs("l", 0, 0, 0);
        weighs("l", 63, 63, 0);
        weighs("l", 63, 0, 30);
        weighs("l", 1, 0, 9);
        weighs("l", 32, 0, 9);
        weighs("l", 63, 1, 21);
        weighs("l", 63, 62, 9);
        check.due("all nines", Check.reading("p0,60;o9;o9;o9;o9;o9;o9;l63,0;").letter(0, 3), 54);
    }

    private void loversWeight() {
        check.says("of a lover's twice that;");
        weighs("v", 0, 0, 0);
        weighs("v", 63, 63, 0);
        weighs("v", 63, 0, 60);
        weighs("v", 2, 0, 2);
        check.due("all nines", Check.reading("p0,60;o9;o9;o9;o9;o9;o9;v63,0;").letter(0, 3), 108);
    }

    private void boysWeight() {
        check.says("of a boy's as of a plain one, and 1, if nothing is SAID;");
        weighs("b", 0, 0, 1);
        weighs("b", 63, 63, 0);
        weighs("b", 63, 0, 31);
        weighs("b", 63, 1, 21);
        weighs("b", 63, 32, 21);
        weighs("b", 2, 0, 2);
        weighs("b", 2, 2, 0);
        check.due("all nines", Check.reading("p0,60;o9;o9;o9;o9;o9;o9;b63,0;").letter(0, 3), 55);
    }

    private void cardsWeight() {
        check.says("of a card half of what a plain one would weigh;");
        weighs("c", 0, 0, 0);
        weighs("c", 63, 63, 0);
        weighs("c", 2, 0, 0);
        weighs("c", 6, 0, 1);
        weighs("c", 22, 0, 1);
        weighs("c", 63, 0, 15);
        weighs("c", 1, 0, 4);
        check.due("all nines", Check.reading("p0,60;o9;o9;o9;o9;o9;o9;c63,0;").letter(0, 3), 27);
    }

    private void lawyersWeight() {
        check.says("of a lawyer's what a card would, less 5 (0 at least).");
        weighs("w", 0, 0, 0);
        weighs("w", 63, 63, 0);
        weighs("w", 1, 0, 0);
        weighs("w", 3, 0, 0);
        weighs("w", 7, 0, 0);
        weighs("w", 23, 0, 1);
        weighs("w", 9, 0, 4);
        weighs("w", 63, 0, 10);
        check.due("all nines", Check.reading("p0,60;o9;o9;o9;o9;o9;o9;w63,0;").letter(0, 3), 22);
    }

    private void aboveTheLimit() {
        check.says("A DAY, first each LETTER that WAITS and has WEIGHT above LIMIT BLURTS");
        int[] weights = {20, 40, 21, 10, 5};
        int[] saids = {1, 1, 1, 0, 3};
        for (int k = 0; k < 5; k++) {
            String letter = ";o9;o9;o2;" + SORTS[k] + "7,0;";
            LetterOunces at = Check.reading("p0," + weights[k] + letter);
            check.due("WEIGHT of a " + SORTS[k], at.letter(0, 3), weights[k]);
            check.due("LIMIT is its WEIGHT: letter(0, 5)", at.letter(0, 5), 0);
            at.days(1);
            check.due("LIMIT is its WEIGHT: SAID behind a DAY, " + SORTS[k], at.letter(0, 1), 0);
            LetterOunces above = Check.reading("p0," + (weights[k] - 1) + letter);
            int due = SORTS[k].equals("v") ? 4 : SORTS[k].equals("w") ? 7 : saids[k];
            check.due("LIMIT is 1 less: letter(0, 5)", above.letter(0, 5), due);
            above.days(1);
            check.due("LIMIT is 1 less: SAID behind a DAY, " + SORTS[k], above.letter(0, 1), due);
        }
        LetterOunces x = Check.reading("p0,0;o1;l1,1;l1,0;");
        check.due("LIMIT 0, WEIGHT 0", x.letter(0, 5), 0);
        check.due("LIMIT 0, WEIGHT 1", x.letter(1, 5), 1);
        x = Check.reading("p99,60;o9;o9;l3,0;");
        x.days(1);
        x.limit(0);
        x.days(1);
        check.due("one that is SENT BLURTS nothing", x.letter(0, 1), 0);
        x.back(0);
        x.days(1);
        check.due("one that is returned BLURTS", x.letter(0, 1), 1);
        x = Check.reading("p0,60;o9;o9;o9;o3;o1;v15,0;v31,0;");
        x.days(1);
        check.due("LIMIT 60, a lover's of 60", x.letter(0, 1), 0);
        check.due("LIMIT 60, a lover's of 62", x.letter(1, 1), 16);
    }

    private void blurtsAsTheDayBegins() {
        check.says("(by what it has SAID as the DAY begins; what is BLURTED is SAID):");
        LetterOunces x = Check.reading("p0,0;o4;o3;o2;o1;l15,0;v15,0;b15,0;");
        x.days(1);
        check.due("one WORD a DAY: a plain one", x.letter(0, 1), 1);
        check.due("one WORD a DAY: a lover's", x.letter(1, 1), 8);
        check.due("one WORD a DAY: a boy's", x.letter(2, 1), 1);
        x = Check.reading("p0,2;o2;b1,0;");
        check.due("a boy's that has SAID nothing is 3, above 2", x.letter(0, 5), 1);
        x.days(1);
        check.due("it is SAID", x.letter(0, 1), 1);
        x = Check.reading("p1,0;o9;o1;l3,0;");
        check.due("what is BLURTED makes it light on the same DAY", x.days(1), 1);
        check.due("PAID", x.count(6), 1);
    }

    private void blurt(String text, int... due) {
        LetterOunces x = Check.reading(text);
        for (int day = 0; day < due.length; day++) {
            int before = x.letter(0, 1);
            check.due(text + " letter(0, 5) on DAY " + day, x.letter(0, 5), due[day]);
            x.days(1);
            check.due(text + " BLURTED on DAY " + day, x.letter(0, 1) - before, due[day]);
        }
    }

    private void plainBlurts() {
        check.says("a plain one the UNSAID WORD of most OUNCES, of several the least;");
        blurt("p0,0;o1;o9;o5;o9;o1;o5;l63,0;", 2, 8, 4, 32, 1, 16, 0);
        blurt("p0,0;o9;o9;o9;o9;o9;o9;l63,0;", 1, 2, 4, 8, 16, 32, 0);
        blurt("p0,0;o9;o8;o1;l6,0;", 2, 4, 0);
        blurt("p0,0;o9;o8;o1;l7,1;", 2, 4, 0);
        blurt("p0,7;o9;o8;o1;l7,0;", 1, 2, 0);
    }

    private void loversBlurts() {
        check.says("a lover's that of fewest, of several the least;");
        blurt("p0,0;o9;o1;o5;o1;o9;o5;v63,0;", 2, 8, 4, 32, 1, 16, 0);
        blurt("p0,0;o9;o9;o9;o9;o9;o9;v63,0;", 1, 2, 4, 8, 16, 32, 0);
        blurt("p0,0;o1;o8;o9;v6,0;", 2, 4, 0);
        blurt("p0,0;o1;o8;o9;v7,1;", 2, 4, 0);
        blurt("p0,18;o1;o8;o9;v7,0;", 1, 2, 0);
    }

    private void boysBlurts() {
        check.says("a boy's as a plain one, but on DAYS that are even alone;");
        blurt("p0,0;o1;o9;o5;o9;o1;o5;b63,0;", 2, 0, 8, 0, 4, 0, 32, 0, 1, 0, 16, 0, 0);
        blurt("p0,0;o1;b0,0;", 0, 0, 0);
        LetterOunces x = Check.reading("p0,60;o9;o1;b3,0;");
        x.days(1);
        x.limit(0);
        check.due("from DAY 1 on: letter(0, 5)", x.letter(0, 5), 0);
        x.days(1);
        check.due("DAY 1", x.letter(0, 1), 0);
        check.due("DAY 2: letter(0, 5)", x.letter(0, 5), 1);
        x.days(1);
        check.due("DAY 2", x.letter(0, 1), 1);
        x.undo();
        x.undo();
        check.due("DAY 1 again: letter(0, 5)", x.letter(0, 5), 0);
    }

    private void cardsBlurts() {
        check.says("a card nothing;");
        blurt("p0,0;o9;o9;o9;o9;o9;o9;c63,0;", 0, 0, 0);
    }

    private void lawyersBlurts() {
        check.says("a lawyer's all.");
        blurt("p0,21;o9;o9;o9;o9;o9;o9;w63,0;", 63, 0);
        blurt("p0,22;o9;o9;o9;o9;o9;o9;w63,0;", 0, 0);
        blurt("p0,0;o9;o2;w3,0;", 0, 0);
        blurt("p0,0;o9;o9;o9;w7,2;", 5, 0);
        blurt("p0,0;o9;o9;o9;w7,0;", 7, 0);
        blurt("p0,0;o9;o9;o9;o3;w15,1;", 14, 0);
    }

    private void thePostman() {
        check.says("Then the postman takes, from LETTER 0 on, each that WAITS and has no more WEIGHT than what is left"
                + " of STRAP (which is so much less then, for this DAY):");
        String letters = ",60;o5;o4;o1;l1,0;l2,0;l4,0;l0,0;";
        int[][] bySentOfStrap = {{0, 8}, {1, 12}, {3, 12}, {4, 10}, {5, 9}, {6, 13}, {8, 13}, {9, 11}, {10, 15}, {99, 15}};
        for (int[] due : bySentOfStrap) {
            LetterOunces x = Check.reading("p" + due[0] + letters);
            check.due("days(1) by a STRAP of " + due[0], x.days(1), due[1]);
        }
        LetterOunces x = Check.reading("p5" + letters);
        check.due("STRAP 5, DAY 0", x.days(1), 1 + 8);
        check.due("STRAP 5, DAY 1: it is whole again", x.days(1), 15);
        check.due("STRAP stays", x.count(4), 5);
        x = Check.reading("p99,60;o9;o9;o9;o9;o9;o5;v63,0;v31,0;");
        x.limit(60);
        check.due("a lover's of 100, that BLURTS 5, and 90, that BLURTS 9", x.days(1), 1);
        check.due("PAID", x.count(6), 90);
    }

    private void sentAndPaid() {
        check.says("it is SENT (waits no more), and its WEIGHT is PAID (99999 in all at most). DAY is 1 more.");
        LetterOunces x = Check.reading("p7,60;o7;o3;l1,0;l2,0;l0,0;");
        check.due("days(1)", x.days(1), 5);
        check.due("letter(0, 4)", x.letter(0, 4), 0);
        check.due("letter(1, 4)", x.letter(1, 4), 1);
        check.due("PAID", x.count(6), 7);
        check.due("DAY", x.count(3), 1);
        check.due("days(1)", x.days(1), 7);
        check.due("PAID in all", x.count(6), 10);
        check.due("DAY", x.count(3), 2);
        check.due("days(1), none WAITS", x.days(1), 7);
        check.due("PAID stays", x.count(6), 10);
        check.due("DAY", x.count(3), 3);
        x.back(0);
        x.days(1);
        check.due("PAID once more for one that was returned", x.count(6), 17);
    }

    /** No object comes so far in 512 calls, and what it answers beyond is free; the class keeps to it all the same. */
    private void paidAtMost() {
        check.says("its WEIGHT is PAID (99999 in all at most).");
        LetterOunces x = Check.reading("p99,60;o9;o9;o9;o9;o9;o9;l63,0;");
        x.days(1);
        for (int k = 1; k < 1851; k++) {
            x.back(0);
            x.days(1);
        }
        check.due("PAID", x.count(6), 99954);
        x.back(0);
        check.due("later(1, 1)", x.later(1, 1), 99999);
        x.days(1);
        check.due("PAID at most", x.count(6), 99999);
        x.undo();
        check.due("PAID behind undo()", x.count(6), 99954);
    }

    private void actsKept() {
        check.says("ACTS (24 at most are kept, of more the oldest is forgotten; each can be undone, the latest first):");
        for (int acts : new int[] {0, 1, 23, 24, 25, 26, 48, 49, 60}) {
            LetterOunces x = Check.reading("p99,60;o1;l1,0;");
            for (int k = 0; k < acts; k++) {
                x.strap(k);
            }
            int kept = Math.min(acts, 24);
            check.due("count(8) behind " + acts, x.count(8), kept);
            for (int k = kept - 1; k >= 0; k--) {
                check.due("undo()", x.undo(), k);
                int left = acts - kept + k;
                check.due("STRAP behind it", x.count(4), left == 0 ? 99 : left - 1);
            }
            check.due("undo() of none", x.undo(), Check.STATE);
            check.due("count(8)", x.count(8), 0);
        }
        LetterOunces x = Check.reading("p99,60;o1;l1,0;");
        for (int k = 0; k < 30; k++) {
            x.strap(k);
        }
        x.undo();
        x.undo();
        x.limit(5);
        check.due("undo() then an ACT: 23 can be undone", x.count(8), 23);
        x.limit(6);
        x.limit(7);
        check.due("24 at most", x.count(8), 24);
        for (int k = 0; k < 3; k++) {
            x.undo();
        }
        check.due("LIMIT as it was", x.count(5), 60);
        check.due("STRAP as it was", x.count(4), 27);
        check.due("undo()", x.undo(), 20);
        check.due("STRAP ahead of that", x.count(4), 26);
    }

    private void undone(Setup setup, String act, Consumer<LetterOunces> acts) {
        LetterOunces x = setup.made();
        int before = x.count(8);
        acts.accept(x);
        check.due(setup + ": " + act + " is an ACT", x.count(8), before + 1);
        check.due(setup + ": undo() of " + act, x.undo(), before);
        boolean isSame = Sight.of(setup).equals(Sight.of(y -> {
            setup.accept(y);
            acts.accept(y);
            y.undo();
        }));
        check.due(setup + ": all is as it was ahead of " + act, isSame ? 1 : 0, 1);
    }

    private void eachActIsUndone() {
        check.says("a DAY; a WORD is SAID; one is taken back; a LETTER is returned (it WAITS again);"
                + " STRAP, LIMIT is another.");
        undone(Setup.RICH, "days(1)", x -> x.days(1));
        undone(Setup.RICH, "say(2, 0)", x -> x.say(2, 0));
        undone(Setup.RICH, "unsay(0, 1)", x -> x.unsay(0, 1));
        undone(Setup.RICH, "back(0)", x -> x.back(0));
        undone(Setup.RICH, "strap(99)", x -> x.strap(99));
        undone(Setup.RICH, "strap(0)", x -> x.strap(0));
        undone(Setup.RICH, "limit(60)", x -> x.limit(60));
        undone(Setup.RICH, "limit(0)", x -> x.limit(0));
        undone(Setup.TAPED, "days(1)", x -> x.days(1));
        LetterOunces x = Setup.RICH.made();
        check.due("back(0)", Check.isRefusal(x.back(0)) ? 0 : 1, 1);
        check.due("it WAITS again", x.letter(0, 4), 1);
        int day = x.count(3);
        x.days(3);
        check.due("three DAYS are three ACTS", x.count(8), 13);
        for (int d = 2; d >= 0; d--) {
            x.undo();
            check.due("DAY behind undo()", x.count(3), day + d);
        }
    }
}
