/** Part 4 of the document's Terms, sentence by sentence: asks, their bodies, and the trace. */
final class Terms4Test {
    private static final int[] SETS = {0, 1, 5, 62, 63, 32, 31};

    private final Check check = new Check();

    public static void main(String[] args) {
        Terms4Test test = new Terms4Test();
        test.trace();
        test.plainSize();
        test.loversSize();
        test.cardsSize();
        test.lawyersSize();
        test.plainMark();
        test.boysMark();
        test.cardsMark();
        test.loversMark();
        test.nearestKind();
        test.asksWithinOthers();
        test.check.end();
    }

    /** Seven letters of a sort: letter k would say SETS[k], and has said all of it or nothing. */
    private static LetterOunces seven(String sort, boolean isSaid) {
        StringBuilder text = new StringBuilder("p0,0;o1;o1;o1;o1;o1;o1;");
        for (int set : SETS) {
            text.append(sort).append(set).append(',').append(isSaid ? set : 0).append(';');
        }
        return Check.reading(text.toString());
    }

    private static int many(int letter) {
        return Integer.bitCount(SETS[letter]);
    }

    private void asked(LetterOunces x, int letter, int what, int answer, int... bodies) {
        String call = "ask(" + letter + ", " + what + ")";
        check.due(call, x.ask(letter, what), answer);
        for (int i = 0; i <= 16; i++) {
            check.due("trace(" + i + ") of " + call, x.trace(i), i < bodies.length ? bodies[i] : Check.NONE);
        }
    }

    /** No ask begins more than six bodies, so the trace is never full. */
    private void trace() {
        check.says("ASKS of LETTERS, by BODIES, each of which leaves its number in THE TRACE as it begins (the first 16):");
        LetterOunces x = Check.reading(Check.FIVE);
        asked(x, 1, 0, -6, 12, 11, 10, 24, 21, 20);
        asked(x, 3, 0, -96, 13, 10);
        check.due("trace(-1)", x.trace(-1), Check.NONE);
        check.due("trace(LOW)", x.trace(Check.LOW), Check.NONE);
        check.due("trace(HIGH)", x.trace(Check.HIGH), Check.NONE);
    }

    private void plainSize() {
        check.says("0 SIZE: 10 lent to all LETTERS: how many WORDS it WOULD say. 11 of PLAIN ones: what 10 gives, and MARK.");
        for (int k = 0; k < 7; k++) {
            asked(seven("l", false), k, 0, many(k) + k, 11, 10, 21, 20);
            asked(seven("l", true), k, 0, many(k) + k + many(k), 11, 10, 21, 20);
            asked(seven("b", false), k, 0, many(k) + k - 1000, 11, 10, 22, 21, 20);
            asked(seven("b", true), k, 0, many(k) + k + many(k) - 1000, 11, 10, 22, 21, 20);
        }
    }

    private void loversSize() {
        check.says("12 of LOVERS: 0 less what 11 gives.");
        for (int k = 0; k < 7; k++) {
            asked(seven("v", false), k, 0, -(many(k) + 2 * k), 12, 11, 10, 24, 21, 20);
            asked(seven("v", true), k, 0, -(many(k) + 2 * (k + many(k))), 12, 11, 10, 24, 21, 20);
        }
    }

    private void cardsSize() {
        check.says("13 of CARDS: what 10 gives, less 100.");
        for (int k = 0; k < 7; k++) {
            asked(seven("c", false), k, 0, many(k) - 100, 13, 10);
            asked(seven("c", true), k, 0, many(k) - 100, 13, 10);
        }
    }

    private void lawyersSize() {
        check.says("14 of LAWYERS: what 13 gives, twice.");
        for (int k = 0; k < 7; k++) {
            asked(seven("w", false), k, 0, 2 * many(k) - 200, 14, 13, 10);
        }
    }

    private void plainMark() {
        check.says("1 MARK: 20 lent to all LETTERS: the number."
                + " 21 of PLAIN ones: what 20 gives, and how many WORDS are SAID.");
        for (int k = 0; k < 7; k++) {
            asked(seven("l", false), k, 1, k, 21, 20);
            asked(seven("l", true), k, 1, k + many(k), 21, 20);
        }
    }

    private void boysMark() {
        check.says("22 of BOYS: what 21 gives, less 1000.");
        for (int k = 0; k < 7; k++) {
            asked(seven("b", false), k, 1, k - 1000, 22, 21, 20);
            asked(seven("b", true), k, 1, k + many(k) - 1000, 22, 21, 20);
        }
    }

    private void cardsMark() {
        check.says("23 of CARDS: what 20 gives, less SIZE.");
        for (int k = 0; k < 7; k++) {
            asked(seven("c", true), k, 1, k - (many(k) - 100), 23, 20, 13, 10);
            asked(seven("w", true), k, 1, k - (2 * many(k) - 200), 23, 20, 14, 13, 10);
        }
    }

    private void loversMark() {
        check.says("24 of LOVERS: what 21 gives, twice.");
        for (int k = 0; k < 7; k++) {
            asked(seven("v", false), k, 1, 2 * k, 24, 21, 20);
            asked(seven("v", true), k, 1, 2 * (k + many(k)), 24, 21, 20);
        }
    }

    private void nearestKind() {
        check.says("(Of an ask the BODY told for the KIND begins, else that of the nearest KIND that it is, too,"
                + " else the one that is lent;");
        LetterOunces x = Check.reading(Check.FIVE);
        int[][] first = {{11, 21}, {12, 24}, {11, 22}, {13, 23}, {14, 23}};
        for (int letter = 0; letter < 5; letter++) {
            for (int what = 0; what <= 1; what++) {
                x.ask(letter, what);
                check.due("ask(" + letter + ", " + what + ") begins", x.trace(0), first[letter][what]);
            }
        }
    }

    private void asksWithinOthers() {
        check.says("SIZE, MARK within others are asked of the same LETTER anew.)");
        LetterOunces x = Check.reading(Check.FIVE);
        asked(x, 1, 0, -6, 12, 11, 10, 24, 21, 20);
        asked(x, 2, 0, -995, 11, 10, 22, 21, 20);
        asked(x, 3, 1, 99, 23, 20, 13, 10);
        asked(x, 4, 1, 196, 23, 20, 14, 13, 10);
    }
}
