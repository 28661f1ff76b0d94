import java.util.function.IntUnaryOperator;

/** Counts the answers that are not as due, and ends a test with exit code 1 if there was one. */
final class Check {
    static final int NONE = -1000000, BAD = -1000001, STATE = -1000002, FULL = -1000003;
    static final int NULL = -1000011, PLACE = -1000012, KIND = -1000013, SIZE = -1000014, STORE = -1000015;
    static final int FAULTY = -1000100;
    static final int LOW = Integer.MIN_VALUE, HIGH = Integer.MAX_VALUE;

    /** One letter of each kind: they weigh 12, 10, 14, 7 and 1. */
    static final String FIVE = "p12,4;o3;o5;o5;o2;l15,1;v6,2;b7,0;c15,0;w15,8;";

    private int answers;
    private int wrong;
    private String sentence = "";
    private int answersBeforeIt;

    void due(String call, int got, int want) {
        answers++;
        if (got != want) {
            wrong++;
            System.out.println(call + " answered " + got + ", due is " + want);
            if (!sentence.isEmpty()) {
                System.out.println("    by: " + sentence);
            }
        }
    }

    /** A sentence of the document, that the answers behind it are held against; SentencesTest looks for all of them. */
    void says(String quote) {
        endSentence();
        sentence = quote;
        answersBeforeIt = answers;
    }

    void says(int promise, String quote) {
        says(quote);
        sentence = "promise " + promise + ": " + quote;
    }

    private void endSentence() {
        if (!sentence.isEmpty() && answers == answersBeforeIt) {
            due("a test of this sentence", 0, 1);
        }
    }

    void end() {
        endSentence();
        System.out.println("  " + answers + " answers, " + wrong + " wrong");
        if (wrong != 0 || answers == 0) {
            System.exit(1);
        }
    }

    static boolean isRefusal(int answer) {
        return answer <= BAD && answer >= STORE;
    }

    /** The last numbers that are taken and the first that are refused, at both ends; v stands for the number. */
    void ends(String call, IntUnaryOperator ask, int least, int belowDue, int most, int aboveDue) {
        due(call + " with v = " + least + " is taken", isRefusal(ask.applyAsInt(least)) ? 0 : 1, 1);
        due(call + " with v = " + most + " is taken", isRefusal(ask.applyAsInt(most)) ? 0 : 1, 1);
        due(call + " with v = " + (least - 1), ask.applyAsInt(least - 1), belowDue);
        due(call + " with v = " + (most + 1), ask.applyAsInt(most + 1), aboveDue);
        due(call + " with v = LOW", ask.applyAsInt(LOW), belowDue);
        due(call + " with v = HIGH", ask.applyAsInt(HIGH), aboveDue);
        // Of these only the lowest bits would be within the ends.
        for (int wrap : new int[] {256, 65536}) {
            if (least + wrap > most) {
                due(call + " with v = " + (least + wrap), ask.applyAsInt(least + wrap), aboveDue);
            }
        }
    }

    void ends(String call, IntUnaryOperator ask, int least, int most) {
        ends(call, ask, least, BAD, most, BAD);
    }

    static void feedAll(LetterOunces x, String text) {
        for (int i = 0; i < text.length(); i++) {
            x.feed(text.charAt(i));
        }
    }

    static LetterOunces reading(String text) {
        LetterOunces x = new LetterOunces();
        feedAll(x, text);
        int letters = x.post();
        if (letters < 1) {
            throw new IllegalStateException(text + " was not read: " + letters);
        }
        return x;
    }

    static void setAll(LetterOunces x, int row, int... items) {
        for (int i = 0; i < items.length; i++) {
            x.set(row, i, items[i]);
        }
    }
}
