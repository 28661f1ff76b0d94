/** Promises 30 to 34. */
final class AskedTest {
    public static void main(String[] args) {
        Check check = new Check();
        promise30kind(check);
        promise31as(check);
        promise32ask(check);
        promise33trace(check);
        promise34count(check);
        check.end();
    }

    private static void promise30kind(Check check) {
        LetterOunces x = Check.reading("p0,0;o1;w1,0;c1,0;b1,0;v1,0;l1,0;");
        for (int letter = 0; letter < 5; letter++) {
            check.due("kind(" + letter + ")", x.kind(letter), 5 - letter);
        }
        check.due("kind(5)", x.kind(5), Check.BAD);
        check.due("kind(-1)", x.kind(-1), Check.BAD);
    }

    private static void promise31as(Check check) {
        LetterOunces x = Check.reading(Check.FIVE);
        int[] kinds = {1 | 2, 1 | 2 | 4, 1 | 2 | 8, 1 | 16, 1 | 16 | 32};
        for (int letter = 0; letter < 5; letter++) {
            for (int kind = 0; kind <= 5; kind++) {
                boolean is = (kinds[letter] >> kind & 1) != 0;
                String call = "as(" + letter + ", " + kind + ")";
                check.due(call, x.as(letter, kind), is ? letter : Check.KIND);
                check.due("status() of " + call, x.status(), is ? 0 : 3);
            }
        }
        check.due("as(5, 0)", x.as(5, 0), Check.BAD);
        check.due("as(-1, 0)", x.as(-1, 0), Check.BAD);
        check.due("as(0, 6)", x.as(0, 6), Check.BAD);
        check.due("as(0, -1)", x.as(0, -1), Check.BAD);
    }

    private static void asked(Check check, LetterOunces x, int letter, int what, int answer, int... bodies) {
        check.due("ask(" + letter + ", " + what + ")", x.ask(letter, what), answer);
        for (int i = 0; i < bodies.length; i++) {
            check.due("trace(" + i + ") of " + letter + ", " + what, x.trace(i), bodies[i]);
        }
        check.due("behind the trace of " + letter + ", " + what, x.trace(bodies.length), Check.NONE);
    }

    private static void promise32ask(Check check) {
        LetterOunces x = Check.reading(Check.FIVE);
        asked(check, x, 0, 0, 5, 11, 10, 21, 20);
        asked(check, x, 1, 0, -6, 12, 11, 10, 24, 21, 20);
        asked(check, x, 2, 0, -995, 11, 10, 22, 21, 20);
        asked(check, x, 3, 0, -96, 13, 10);
        asked(check, x, 4, 0, -192, 14, 13, 10);
        asked(check, x, 0, 1, 1, 21, 20);
        asked(check, x, 1, 1, 4, 24, 21, 20);
        asked(check, x, 2, 1, -998, 22, 21, 20);
        asked(check, x, 3, 1, 99, 23, 20, 13, 10);
        asked(check, x, 4, 1, 196, 23, 20, 14, 13, 10);
        x.say(2, 0);
        x.say(2, 1);
        asked(check, x, 2, 1, -996, 22, 21, 20);
        LetterOunces y = Check.reading("p0,0;o1;o1;l1,0;l1,0;v3,3;");
        asked(check, y, 2, 1, 8, 24, 21, 20);
        asked(check, y, 2, 0, -10, 12, 11, 10, 24, 21, 20);
        check.due("ask(5, 0)", x.ask(5, 0), Check.BAD);
        check.due("ask(-1, 0)", x.ask(-1, 0), Check.BAD);
        check.due("ask(0, 2)", x.ask(0, 2), Check.BAD);
        check.due("ask(0, -1)", x.ask(0, -1), Check.BAD);
        check.due("what is refused leaves the trace", x.trace(0), 22);
    }

    private static void promise33trace(Check check) {
        LetterOunces x = Check.reading(Check.FIVE);
        check.due("trace(0) at first", x.trace(0), Check.NONE);
        x.ask(1, 0);
        check.due("trace(-1)", x.trace(-1), Check.NONE);
        check.due("trace(5)", x.trace(5), 20);
        check.due("trace(6)", x.trace(6), Check.NONE);
        check.due("trace(16)", x.trace(16), Check.NONE);
        check.due("trace(2147483647)", x.trace(2147483647), Check.NONE);
        x.days(1);
        check.due("trace(0) stays", x.trace(0), 12);
        x.ask(3, 0);
        check.due("trace(1) of a shorter one", x.trace(1), 10);
        check.due("trace(2) of a shorter one", x.trace(2), Check.NONE);
    }

    private static void promise34count(Check check) {
        LetterOunces x = Check.reading(Check.FIVE);
        x.row(2, 0, 5);
        x.row(5, 2, 0);
        x.days(2);
        x.strap(77);
        x.limit(33);
        x.feed(0);
        x.feed(1);
        x.feed(2);
        int[] due = {2, 4, 5, 2, 77, 33, 16, 23, 4, 3};
        for (int what = 0; what <= 9; what++) {
            check.due("count(" + what + ")", x.count(what), due[what]);
        }
        check.due("count(10)", x.count(10), Check.BAD);
        check.due("count(-1)", x.count(-1), Check.BAD);
    }
}
