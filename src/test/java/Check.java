/** Counts the answers that are not as due, and ends a test with exit code 1 if there was one. */
final class Check {
    static final int NONE = -1000000, BAD = -1000001, STATE = -1000002, FULL = -1000003;
    static final int NULL = -1000011, PLACE = -1000012, KIND = -1000013, SIZE = -1000014, STORE = -1000015;
    static final int FAULTY = -1000100;

    /** One letter of each kind: they weigh 12, 10, 14, 7 and 1. */
    static final String FIVE = "p12,4;o3;o5;o5;o2;l15,1;v6,2;b7,0;c15,0;w15,8;";

    private int answers;
    private int wrong;

    void due(String call, int got, int want) {
        answers++;
        if (got != want) {
            wrong++;
            System.out.println(call + " answered " + got + ", due is " + want);
        }
    }

    void end() {
        System.out.println("  " + answers + " answers, " + wrong + " wrong");
        if (wrong != 0 || answers == 0) {
            System.exit(1);
        }
    }

    static void feedAll(LetterOunces x, String text) {
        for (int i = 0; i < text.length(); i++) {
            x.feed(text.charAt(i));
        }
    }

    static LetterOunces reading(String text) {
        LetterOunces x = new LetterOunces();
        feedAll(x, text);
        int letters = x.post();
        if (letters < 1) {
            throw new IllegalStateException(text + " was not read: " + letters);
        }
        return x;
    }

    static void setAll(LetterOunces x, int row, int... items) {
        for (int i = 0; i < items.length; i++) {
            x.set(row, i, items[i]);
        }
    }
}
