import java.util.function.Consumer;

/** Promises 6 to 17, sentence by sentence, at their ends. */
final class PromisesActsTest {
    private static final String ONE = "p0,60;o1;l1,0;";

    private final Check check = new Check();

    public static void main(String[] args) {
        PromisesActsTest test = new PromisesActsTest();
        test.feed();
        test.feedRefused();
        test.post();
        test.postFaulty();
        test.fault();
        test.days();
        test.daysRefused();
        test.daysFull();
        test.say();
        test.sayRefused();
        test.unsay();
        test.unsayRefused();
        test.back();
        test.backRefused();
        test.strap();
        test.strapRefused();
        test.limit();
        test.limitRefused();
        test.undo();
        test.undoRefused();
        test.letter();
        test.letterRefused();
        test.ounces();
        test.ouncesRefused();
        test.check.end();
    }

    private void feed() {
        check.says(6, "A byte (0 to 255) comes behind the tape: how many it has.");
        LetterOunces x = new LetterOunces();
        for (int n = 1; n <= 100; n++) {
            check.due("feed(" + n + ")", x.feed(n), n);
        }
        for (int b = 0; b <= 255; b++) {
            LetterOunces y = Check.reading(ONE);
            check.due("feed(" + b + ")", y.feed(b), 1);
            check.due("count(9)", y.count(9), 1);
        }
        x = new LetterOunces();
        Check.feedAll(x, ONE);
        check.due("what came is read in turn", x.post(), 1);
    }

    private void feedRefused() {
        check.says(6, "BAD; FULL.");
        check.ends("feed(v)", v -> Setup.RICH.made().feed(v), 0, 255);
        check.due("feed('p' and 256)", new LetterOunces().feed('p' + 256), Check.BAD);
        Sight.refused(check, Setup.RICH, "feed(-1)", x -> x.feed(-1), Check.BAD);
        Sight.refused(check, Setup.RICH, "feed(256)", x -> x.feed(256), Check.BAD);
        Sight.refused(check, Setup.TAPED, "feed(0)", x -> x.feed(0), Check.FULL);
        Sight.refused(check, Setup.TAPED, "feed(255)", x -> x.feed(255), Check.FULL);
        Sight.refused(check, Setup.TAPED, "feed(256)", x -> x.feed(256), Check.BAD);
        Sight.refused(check, Setup.TAPED, "feed(-1)", x -> x.feed(-1), Check.BAD);
    }

    private void post() {
        check.says(7, "The tape, empty then, is read: how many LETTERS there are.");
        StringBuilder text = new StringBuilder("p0,0;o1;");
        for (int n = 1; n <= 7; n++) {
            text.append("c1,0;");
            LetterOunces x = Setup.BUSY.made();
            Check.feedAll(x, text.toString());
            check.due("post()", x.post(), n);
            check.due("count(9)", x.count(9), 0);
            check.due("count(2)", x.count(2), n);
            check.due("post() of nothing", x.post(), Check.FAULTY);
            check.due("count(2) then", x.count(2), n);
        }
        LetterOunces x = Setup.TAPED.made();
        check.due("post() of 100 bytes", x.post(), Check.FAULTY - 10);
        check.due("count(9)", x.count(9), 0);
        Check.feedAll(x, ONE);
        check.due("post() behind it", x.post(), 1);
    }

    private void postFaulty() {
        check.says(7, "-1000100 less the place of a FAULT: all stays.");
        Consumer<LetterOunces> untold = x -> Setup.rich(x, "q", "");
        for (String text : new String[] {"", "q", "p7,7;o7;l1", "p9,9;o9;l1,0;x", "p0,0;o1;l1,1;;"}) {
            LetterOunces x = Setup.RICH.made();
            x.post();
            Check.feedAll(x, text);
            check.due("post() of " + text, x.post() <= Check.FAULTY ? 1 : 0, 1);
            check.due("status()", x.status(), 2);
            boolean isSame = Sight.of(untold).equals(Sight.of(y -> {
                Setup.rich(y, "p1,99;", text);
                y.post();
            }));
            check.due("post() of " + text + ": all stays", isSame ? 1 : 0, 1);
        }
        LetterOunces x = new LetterOunces();
        check.due("post() of nothing", x.post(), -1000100);
        Check.feedAll(x, "p99,60;o01;o02;o03;o04;o05;o06;l63,00;v63,00;b63,00;c63,00;w63,00;l63,00;v63,00;");
        x.feed('o');
        check.due("post() with the last place that a FAULT can have", x.post(), -1000180);
        check.due("count(2)", x.count(2), 0);
    }

    private void fault() {
        check.says(8, "The number of the latest FAULT; 0 before one.");
        LetterOunces x = new LetterOunces();
        check.due("fault() before one", x.fault(), 0);
        Check.feedAll(x, ONE);
        x.post();
        check.due("fault() behind a POST", x.fault(), 0);
        String[] texts = {"p0,61;", "p0,0;o1;o1;o1;o1;o1;o1;o", "q"};
        int[] numbers = {2, 3, 1};
        for (int k = 0; k < 3; k++) {
            Check.feedAll(x, texts[k]);
            x.post();
            check.due("fault() behind " + texts[k], x.fault(), numbers[k]);
            check.due("fault() again", x.fault(), numbers[k]);
            Check.feedAll(x, ONE);
            x.post();
            check.due("fault() behind a POST is the latest", x.fault(), numbers[k]);
        }
    }

    private void days() {
        check.says(9, "n DAYS (1 to 24), an ACT each: LETTERS (bits) that are SENT then.");
        for (int n = 1; n <= 24; n++) {
            LetterOunces x = Check.reading(Check.FIVE);
            check.due("days(" + n + ")", x.days(n), n == 1 ? 19 : n == 2 ? 23 : 31);
            check.due("DAY", x.count(3), n);
            check.due("ACTS", x.count(8), n);
            check.due("SENT", x.count(7), n == 1 ? 19 : n == 2 ? 23 : 31);
            check.due("undo()", x.undo(), n - 1);
            check.due("DAY behind undo()", x.count(3), n - 1);
        }
        LetterOunces x = Check.reading("p0,0;o9;c1,0;c1,0;c1,0;c1,0;c1,0;c1,0;c1,0;");
        check.due("days(24), none is SENT", x.days(24), 0);
        x.strap(99);
        check.due("days(1), all seven are SENT", x.days(1), 127);
        check.due("days(1), SENT long since", x.days(1), 127);
    }

    private void daysRefused() {
        check.says(9, "BAD; STATE: no POST (ahead of BAD);");
        check.ends("days(v)", v -> Setup.RICH.made().days(v), 1, 24);
        for (int n : new int[] {Check.LOW, -1, 0, 1, 24, 25, Check.HIGH}) {
            check.due("days(" + n + ") without a POST", Setup.BARE.made().days(n), Check.STATE);
        }
        Sight.refused(check, Setup.BARE, "days(25)", x -> x.days(25), Check.STATE);
        Sight.refused(check, Setup.RICH, "days(0)", x -> x.days(0), Check.BAD);
        Sight.refused(check, Setup.RICH, "days(-1)", x -> x.days(-1), Check.BAD);
        Sight.refused(check, Setup.BUSY, "days(25)", x -> x.days(25), Check.BAD);
    }

    private void daysFull() {
        check.says(9, "FULL: beyond DAY 9999.");
        LetterOunces x = Check.reading(ONE);
        for (int k = 0; k < 416; k++) {
            x.days(24);
        }
        check.due("DAY", x.count(3), 9984);
        x.strap(7);
        check.due("days(24)", x.days(24), Check.FULL);
        check.due("days(16)", x.days(16), Check.FULL);
        check.due("days(25): BAD is ahead", x.days(25), Check.BAD);
        check.due("days(0): BAD is ahead", x.days(0), Check.BAD);
        check.due("DAY stays", x.count(3), 9984);
        check.due("none is SENT", x.count(7), 0);
        check.due("ACTS stay", x.count(8), 24);
        check.due("undo()", x.undo(), 23);
        check.due("what is undone is the STRAP", x.count(4), 0);
        check.due("days(15)", x.days(15), 0);
        check.due("DAY", x.count(3), 9999);
        check.due("days(1)", x.days(1), Check.FULL);
        check.due("DAY stays", x.count(3), 9999);
        x.undo();
        check.due("DAY behind undo()", x.count(3), 9998);
        check.due("days(2)", x.days(2), Check.FULL);
        check.due("days(1)", x.days(1), 0);
        check.due("DAY", x.count(3), 9999);
    }

    private void say() {
        check.says(10, "A WORD is SAID: WEIGHT then.");
        int[] weights = {12, 24, 12, 6, 1};
        for (int k = 0; k < 5; k++) {
            LetterOunces x = Check.reading("p0,60;o9;o1;o1;o1;o1;o8;" + "lvbcw".charAt(k) + "63,0;");
            check.due("say(0, 0) of kind " + (k + 1), x.say(0, 0), weights[k]);
            check.due("SAID", x.letter(0, 1), 1);
            check.due("UNSAID", x.letter(0, 2), 62);
            check.due("it is an ACT", x.count(8), 1);
            int[] last = {4, 8, 4, 2, 0};
            check.due("say(0, 5) of kind " + (k + 1), x.say(0, 5), last[k]);
            check.due("SAID", x.letter(0, 1), 33);
            for (int word = 1; word <= 4; word++) {
                check.due("say(0, " + word + ") of kind " + (k + 1), x.say(0, word), x.letter(0, 3));
            }
            check.due("all is SAID", x.letter(0, 1), 63);
            check.due("WEIGHT", x.letter(0, 3), 0);
        }
        LetterOunces x = Check.reading("p99,60;o5;o6;l3,0;v3,0;");
        x.days(1);
        check.due("say(0, 0) of one that is SENT", x.say(0, 0), 6);
        check.due("PAID stays", x.count(6), 33);
        check.due("SAID of the other", x.letter(1, 1), 0);
    }

    private void sayRefused() {
        check.says(10, "BAD; STATE: it is no UNSAID one.");
        check.ends("say(v, 0)", v -> Check.reading("p0,0;o1;l1,0;l1,0;l1,0;l1,0;l1,0;l1,0;l1,0;").say(v, 0), 0, 6);
        check.ends("say(v, 0) of two", v -> Check.reading("p0,0;o1;l1,0;l1,0;").say(v, 0), 0, 1);
        check.ends("say(0, v)", v -> Check.reading("p0,0;o1;o1;o1;o1;o1;o1;l63,0;").say(0, v), 0, 5);
        check.ends("say(0, v) of two", v -> Check.reading("p0,0;o1;o1;l3,0;").say(0, v), 0, 1);
        Sight.refused(check, Setup.BARE, "say(0, 0)", x -> x.say(0, 0), Check.BAD);
        Sight.refused(check, Setup.RICH, "say(5, 0)", x -> x.say(5, 0), Check.BAD);
        Sight.refused(check, Setup.RICH, "say(0, 4)", x -> x.say(0, 4), Check.BAD);
        Sight.refused(check, Setup.RICH, "say(0, -1)", x -> x.say(0, -1), Check.BAD);
        Sight.refused(check, Setup.RICH, "say(0, 32)", x -> x.say(0, 32), Check.BAD);
        Sight.refused(check, Setup.RICH, "say(0, 1), which is SAID", x -> x.say(0, 1), Check.STATE);
        Sight.refused(check, Setup.RICH, "say(1, 0), which it would not", x -> x.say(1, 0), Check.STATE);
        Sight.refused(check, Setup.RICH, "say(1, 3), which it would not", x -> x.say(1, 3), Check.STATE);
    }

    private void unsay() {
        check.says(11, "A WORD is taken back: WEIGHT then.");
        int[] weights = {9, 18, 9, 4, 0};
        int[] all = {21, 42, 22, 10, 5};
        for (int k = 0; k < 5; k++) {
            LetterOunces x = Check.reading("p0,60;o9;o1;o1;o1;o1;o8;" + "lvbcw".charAt(k) + "63,63;");
            check.due("unsay(0, 0) of kind " + (k + 1), x.unsay(0, 0), weights[k]);
            check.due("SAID", x.letter(0, 1), 62);
            check.due("it is an ACT", x.count(8), 1);
            for (int word = 1; word <= 4; word++) {
                check.due("unsay(0, " + word + ") of kind " + (k + 1), x.unsay(0, word), x.letter(0, 3));
            }
            check.due("unsay(0, 5) of kind " + (k + 1), x.unsay(0, 5), all[k]);
            check.due("nothing is SAID", x.letter(0, 1), 0);
        }
        LetterOunces x = Check.reading("p99,60;o5;o6;l3,3;v3,3;");
        x.days(1);
        check.due("unsay(0, 0) of one that is SENT", x.unsay(0, 0), 5);
        check.due("it stays SENT", x.count(7), 3);
        check.due("SAID of the other", x.letter(1, 1), 3);
    }

    private void unsayRefused() {
        check.says(11, "BAD; STATE: it is not SAID.");
        check.ends("unsay(v, 0)", v -> Check.reading("p0,0;o1;l1,1;l1,1;l1,1;l1,1;l1,1;l1,1;l1,1;").unsay(v, 0), 0, 6);
        check.ends("unsay(0, v)", v -> Check.reading("p0,0;o1;o1;o1;o1;o1;o1;l63,63;").unsay(0, v), 0, 5);
        check.ends("unsay(0, v) of two", v -> Check.reading("p0,0;o1;o1;l3,3;").unsay(0, v), 0, 1);
        Sight.refused(check, Setup.BARE, "unsay(0, 0)", x -> x.unsay(0, 0), Check.BAD);
        Sight.refused(check, Setup.RICH, "unsay(5, 0)", x -> x.unsay(5, 0), Check.BAD);
        Sight.refused(check, Setup.RICH, "unsay(-1, 0)", x -> x.unsay(-1, 0), Check.BAD);
        Sight.refused(check, Setup.RICH, "unsay(0, 4)", x -> x.unsay(0, 4), Check.BAD);
        Sight.refused(check, Setup.RICH, "unsay(0, 33)", x -> x.unsay(0, 33), Check.BAD);
        Sight.refused(check, Setup.RICH, "unsay(0, 0), which is UNSAID", x -> x.unsay(0, 0), Check.STATE);
        Sight.refused(check, Setup.RICH, "unsay(1, 0), which it would not", x -> x.unsay(1, 0), Check.STATE);
    }

    private void back() {
        check.says(12, "A LETTER is returned: its WEIGHT.");
        LetterOunces x = Check.reading("p99,60;o9;o3;l3,0;v2,0;b3,1;c3,0;w3,0;l3,3;b0,0;");
        int[] weights = {12, 6, 3, 6, 1, 0, 1};
        check.due("days(1)", x.days(1), 127);
        int paid = x.count(6);
        check.due("PAID", paid, 29);
        for (int letter = 0; letter < 7; letter++) {
            check.due("back(" + letter + ")", x.back(letter), weights[letter]);
            check.due("it WAITS", x.letter(letter, 4), 1);
            check.due("SENT", x.count(7), 127 >> letter + 1 << letter + 1);
            check.due("ACTS", x.count(8), letter + 2);
        }
        check.due("PAID stays", x.count(6), paid);
        check.due("days(1)", x.days(1), 127);
        check.due("PAID twice", x.count(6), 2 * paid);
    }

    private void backRefused() {
        check.says(12, "BAD; STATE: it WAITS.");
        check.ends("back(v)", v -> sevenSent().back(v), 0, 6);
        Sight.refused(check, Setup.BARE, "back(0)", x -> x.back(0), Check.BAD);
        Sight.refused(check, Setup.RICH, "back(5)", x -> x.back(5), Check.BAD);
        Sight.refused(check, Setup.RICH, "back(-1)", x -> x.back(-1), Check.BAD);
        Sight.refused(check, Setup.RICH, "back(2), which WAITS", x -> x.back(2), Check.STATE);
        Sight.refused(check, Setup.BUSY, "back(0), which WAITS", x -> x.back(0), Check.STATE);
        Sight.refused(check, Setup.TAPED, "back(0), which WAITS", x -> x.back(0), Check.STATE);
    }

    private static LetterOunces sevenSent() {
        LetterOunces x = Check.reading("p0,0;o1;l1,1;l1,1;l1,1;l1,1;l1,1;l1,1;l1,1;");
        x.days(1);
        return x;
    }

    private void strap() {
        check.says(13, "STRAP is v (0 to 99): what it was.");
        LetterOunces x = Check.reading(ONE);
        int was = 0;
        for (int v = 0; v <= 99; v++) {
            check.due("strap(" + v + ")", x.strap(v), was);
            check.due("count(4)", x.count(4), v);
            check.due("count(8)", x.count(8), Math.min(v + 1, 24));
            was = v;
        }
        check.due("strap(0)", x.strap(0), 99);
        check.due("count(5) stays", x.count(5), 60);
    }

    private void strapRefused() {
        check.says(13, "BAD; STATE: no POST (ahead of BAD).");
        check.ends("strap(v)", v -> Setup.RICH.made().strap(v), 0, 99);
        for (int v : new int[] {Check.LOW, -1, 0, 99, 100, Check.HIGH}) {
            check.due("strap(" + v + ") without a POST", Setup.BARE.made().strap(v), Check.STATE);
        }
        Sight.refused(check, Setup.BARE, "strap(100)", x -> x.strap(100), Check.STATE);
        Sight.refused(check, Setup.RICH, "strap(100)", x -> x.strap(100), Check.BAD);
        Sight.refused(check, Setup.BUSY, "strap(-1)", x -> x.strap(-1), Check.BAD);
    }

    private void limit() {
        check.says(14, "LIMIT is v (0 to 60): what it was.");
        LetterOunces x = Check.reading(ONE);
        int was = 60;
        for (int v = 0; v <= 60; v++) {
            check.due("limit(" + v + ")", x.limit(v), was);
            check.due("count(5)", x.count(5), v);
            check.due("count(8)", x.count(8), Math.min(v + 1, 24));
            was = v;
        }
        check.due("limit(0)", x.limit(0), 60);
        check.due("count(4) stays", x.count(4), 0);
    }

    private void limitRefused() {
        check.says(14, "BAD; STATE: no POST (ahead of BAD).");
        check.ends("limit(v)", v -> Setup.RICH.made().limit(v), 0, 60);
        for (int v : new int[] {Check.LOW, -1, 0, 60, 61, Check.HIGH}) {
            check.due("limit(" + v + ") without a POST", Setup.BARE.made().limit(v), Check.STATE);
        }
        Sight.refused(check, Setup.BARE, "limit(61)", x -> x.limit(61), Check.STATE);
        Sight.refused(check, Setup.RICH, "limit(61)", x -> x.limit(61), Check.BAD);
        Sight.refused(check, Setup.BUSY, "limit(-1)", x -> x.limit(-1), Check.BAD);
    }

    private void undo() {
        check.says(15, "The latest ACT is undone: how many can be undone yet.");
        LetterOunces x = Check.reading(Check.FIVE);
        x.say(0, 1);
        x.unsay(0, 0);
        x.strap(3);
        x.limit(2);
        x.days(1);
        int sent = x.count(7);
        x.back(1);
        check.due("undo() of back", x.undo(), 5);
        check.due("SENT", x.count(7), sent);
        check.due("undo() of days", x.undo(), 4);
        check.due("SENT", x.count(7), 0);
        check.due("DAY", x.count(3), 0);
        check.due("PAID", x.count(6), 0);
        check.due("BLURTED is UNSAID again", x.letter(2, 1), 0);
        check.due("undo() of limit", x.undo(), 3);
        check.due("LIMIT", x.count(5), 4);
        check.due("undo() of strap", x.undo(), 2);
        check.due("STRAP", x.count(4), 12);
        check.due("undo() of unsay", x.undo(), 1);
        check.due("SAID", x.letter(0, 1), 3);
        check.due("undo() of say", x.undo(), 0);
        check.due("SAID", x.letter(0, 1), 1);
    }

    private void undoRefused() {
        check.says(15, "STATE: none.");
        check.due("undo() without a POST", new LetterOunces().undo(), Check.STATE);
        Sight.refused(check, Setup.BARE, "undo()", x -> x.undo(), Check.STATE);
        Sight.refused(check, Setup.TAPED, "undo()", x -> x.undo(), Check.STATE);
        LetterOunces x = Setup.BUSY.made();
        for (int k = 23; k >= 0; k--) {
            check.due("undo()", x.undo(), k);
        }
        int day = x.count(3);
        check.due("undo() of a 25th, that is forgotten", x.undo(), Check.STATE);
        check.due("DAY stays", x.count(3), day);
        check.due("count(8)", x.count(8), 0);
        x.strap(9);
        check.due("undo() of an ACT behind it", x.undo(), 0);
    }

    private void letter() {
        check.says(16, "Of a LETTER: 0 WOULD (bits), 1 SAID (bits), 2 UNSAID (bits), 3 WEIGHT, 4 whether it WAITS (1, 0),"
                + " 5 what it would BLURT on this DAY (bits), did it WAIT.");
        LetterOunces x = Check.reading("p99,60;o9;o9;o9;o9;o9;o3;l63,0;b63,1;v35,0;w63,0;c63,63;");
        int[][] due = {{63, 0, 63, 48, 1, 0}, {63, 1, 62, 39, 1, 0}, {35, 0, 35, 42, 1, 0}, {63, 0, 63, 19, 1, 0},
            {63, 63, 0, 0, 1, 0}};
        for (int letter = 0; letter < 5; letter++) {
            for (int what = 0; what <= 5; what++) {
                check.due("letter(" + letter + ", " + what + ")", x.letter(letter, what), due[letter][what]);
            }
        }
        check.due("days(1)", x.days(1), 1 + 2 + 16);
        check.due("days(1)", x.days(1), 31);
        x.limit(18);
        int[] blurts = {1, 2, 32, 63, 0};
        for (int letter = 0; letter < 5; letter++) {
            check.due("SENT: letter(" + letter + ", 4)", x.letter(letter, 4), 0);
            check.due("SENT, DAY 2: letter(" + letter + ", 5)", x.letter(letter, 5), blurts[letter]);
        }
        x.days(1);
        check.due("SENT, DAY 3: a boy's would BLURT nothing", x.letter(1, 5), 0);
        check.due("SENT, DAY 3: a plain one would", x.letter(0, 5), 1);
        x.limit(48);
        check.due("LIMIT is the WEIGHT", x.letter(0, 5), 0);
        x.limit(47);
        check.due("LIMIT is 1 less", x.letter(0, 5), 1);
    }

    private void letterRefused() {
        check.says(16, "BAD.");
        check.ends("letter(v, 0)", v -> sevenSent().letter(v, 0), 0, 6);
        check.ends("letter(v, 0) of one", v -> Check.reading(ONE).letter(v, 0), 0, 0);
        check.ends("letter(0, v)", v -> sevenSent().letter(0, v), 0, 5);
        check.due("letter(0, 0) without a POST", new LetterOunces().letter(0, 0), Check.BAD);
        Sight.refused(check, Setup.RICH, "letter(5, 0)", x -> x.letter(5, 0), Check.BAD);
        Sight.refused(check, Setup.RICH, "letter(0, 6)", x -> x.letter(0, 6), Check.BAD);
    }

    private void ounces() {
        check.says(17, "OUNCES of a WORD.");
        LetterOunces x = Check.reading("p0,0;o9;o8;o1;o2;o7;o5;l0,0;");
        int[] due = {9, 8, 1, 2, 7, 5};
        for (int word = 0; word <= 5; word++) {
            check.due("ounces(" + word + ")", x.ounces(word), due[word]);
        }
    }

    private void ouncesRefused() {
        check.says(17, "BAD.");
        StringBuilder text = new StringBuilder("p0,0;");
        for (int n = 1; n <= 6; n++) {
            text.append("o9;");
            LetterOunces x = Check.reading(text + "l0,0;");
            check.ends("ounces(v) of " + n, v -> x.ounces(v), 0, n - 1);
        }
        check.due("ounces(0) without a POST", new LetterOunces().ounces(0), Check.BAD);
        Sight.refused(check, Setup.RICH, "ounces(4)", x -> x.ounces(4), Check.BAD);
    }
}
