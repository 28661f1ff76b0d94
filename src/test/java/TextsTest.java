/** Texts that are one byte off, each in every place: what is read of them is held against the Oracle's reading. */
final class TextsTest {
    private static final String[] TEXTS = {Check.FIVE, "p99,60;o1;o2;o3;o4;o5;o6;l63,63;v63,0;b7,1;c32,32;w0,0;l1,0;v2,2;",
        "p0,0;o9;l1,0;", "p07,08;o01;o09;w03,02;"};

    private final Check check = new Check();

    public static void main(String[] args) {
        TextsTest test = new TextsTest();
        for (String text : TEXTS) {
            for (int at = 0; at <= text.length(); at++) {
                test.oneByteOff(text, at);
            }
        }
        test.check.end();
    }

    private void oneByteOff(String text, int at) {
        String before = text.substring(0, at);
        String behind = text.substring(at);
        read(before);
        read(behind);
        for (char c = 0; c < 256; c++) {
            read(before + c + behind);
            if (!behind.isEmpty()) {
                read(before + c + behind.substring(1));
            }
        }
        if (!behind.isEmpty()) {
            read(before + behind.substring(1));
            read(before + behind.charAt(0) + behind);
        }
    }

    private void read(String text) {
        LetterOunces x = new LetterOunces();
        Oracle due = new Oracle();
        for (int i = 0; i < text.length(); i++) {
            x.feed(text.charAt(i));
            due.feed(text.charAt(i));
        }
        check.due("post() of " + text, x.post(), due.post());
        check.due("fault() of " + text, x.fault(), due.fault());
        for (int what = 1; what <= 5; what++) {
            check.due("count(" + what + ") of " + text, x.count(what), due.count(what));
        }
        for (int letter = 0; letter < due.count(2); letter++) {
            check.due("kind(" + letter + ") of " + text, x.kind(letter), due.kind(letter));
            check.due("letter(" + letter + ", 0) of " + text, x.letter(letter, 0), due.letter(letter, 0));
            check.due("letter(" + letter + ", 1) of " + text, x.letter(letter, 1), due.letter(letter, 1));
        }
        for (int word = 0; word < due.count(1); word++) {
            check.due("ounces(" + word + ") of " + text, x.ounces(word), due.ounces(word));
        }
    }
}
