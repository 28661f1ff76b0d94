/** How many calls an object is good for, and the opening of the document's Terms. */
final class TermsTest {
    private static final String ONE = "p0,60;o1;l1,0;";

    private final Check check = new Check();

    public static void main(String[] args) {
        TermsTest test = new TermsTest();
        test.fiveHundredAndTwelveCalls();
        test.numbersFromZero();
        test.cutTowardsZero();
        test.fractions();
        test.setsAreBits();
        test.orderOfRefusals();
        test.findings();
        test.firstInTime();
        test.refusedChangesNothing();
        test.foundChangesStatusAlone();
        test.check.end();
    }

    private void fiveHundredAndTwelveCalls() {
        check.says("An object is used for at most 512 calls after it has been made");
        LetterOunces x = Check.reading(ONE);
        int calls = ONE.length() + 1;
        for (; calls < 511; calls++) {
            x.strap(calls % 100);
        }
        check.due("call 512, strap(0)", x.strap(0), 510 % 100);
        x = Check.reading(ONE);
        for (calls = ONE.length() + 1; calls < 488; calls++) {
            x.days(1);
        }
        for (; calls < 512; calls++) {
            check.due("call " + (calls + 1) + ", undo()", x.undo(), 511 - calls);
        }
        check.due("DAY behind it", x.count(3), 488 - ONE.length() - 1 - 24);
        x = new LetterOunces();
        for (calls = 1; calls <= 512; calls++) {
            check.due("call " + calls + ", row()", x.row(calls % 8, calls % 3, calls % 41), calls % 41);
        }
        x = new LetterOunces();
        for (calls = 0; calls + ONE.length() + 1 <= 512; calls += ONE.length() + 1) {
            Check.feedAll(x, ONE);
            check.due("post() at call " + (calls + ONE.length() + 1), x.post(), 1);
        }
        check.due("the last calls, count(2)", x.count(2), 1);
        x = Check.reading("p0,0;o1;o2;o3;o4;o5;o6;b63,0;b63,0;b63,0;b63,0;b63,0;b63,0;b63,0;");
        for (calls = 70; calls <= 512; calls++) {
            check.due("call " + calls + ", slips()", x.slips(6, 0, 30, 1, 1), 1);
        }
    }

    private void numbersFromZero() {
        check.says("Numbers go from 0 on.");
        LetterOunces x = Check.reading("p0,60;o7;o8;v1,0;c2,0;");
        check.due("ounces(0)", x.ounces(0), 7);
        check.due("ounces(1)", x.ounces(1), 8);
        check.due("ounces(2)", x.ounces(2), Check.BAD);
        check.due("ounces(-1)", x.ounces(-1), Check.BAD);
        check.due("kind(0)", x.kind(0), 2);
        check.due("kind(1)", x.kind(1), 4);
        check.due("kind(2)", x.kind(2), Check.BAD);
        check.due("kind(-1)", x.kind(-1), Check.BAD);
        check.due("row(0, 0, 1)", x.row(0, 0, 1), 1);
        check.due("set(0, 0, 3)", x.set(0, 0, 3), 3);
        check.due("set(0, 1, 3)", x.set(0, 1, 3), Check.PLACE);
        check.due("set(0, -1, 3)", x.set(0, -1, 3), Check.PLACE);
        check.due("DAY", x.count(3), 0);
        x.ask(1, 1);
        check.due("trace(0)", x.trace(0), 23);
    }

    private void cutTowardsZero() {
        check.says("All that is divided is cut towards 0,");
        LetterOunces x = Check.reading("p0,60;o1;o2;o3;o9;c1,0;c2,0;c4,0;c8,0;w12,0;w15,0;");
        int[] halves = {0, 1, 1, 4, 1, 2};
        for (int letter = 0; letter < 6; letter++) {
            check.due("half of it, letter(" + letter + ", 3)", x.letter(letter, 3), halves[letter]);
        }
        x = Check.reading("p0,60;o2;o1;l1,0;l2,0;");
        check.due("share(0, 5): 10 by 3 is 3, and 1 is over", x.share(0, 5), 4);
        check.due("share(1, 5): 5 by 3 is 1", x.share(1, 5), 1);
        check.due("share(0, 4): 8 by 3 is 2, and 1 is over", x.share(0, 4), 3);
        check.due("share(1, 2): 2 by 3 is 0", x.share(1, 2), 0);
    }

    private void fractions() {
        check.says("but fractions, told as two numbers in lowest terms (0 is 0 by 1).");
        LetterOunces x = Check.reading("p0,60;o2;o1;l3,0;l0,0;");
        int[][] due = {{0, 0, 0, 0, 1}, {0, 3, 0, 1, 1}, {0, 0, 10, 1, 1}, {0, 0, 5, 1, 4}, {0, 1, 5, 1, 2},
            {0, 0, 3, 9, 100}, {0, 2, 3, 51, 100}, {0, 1, 3, 3, 10}, {0, 2, 2, 9, 25}, {0, 0, 1, 1, 100},
            {1, 0, 0, 1, 1}, {1, 0, 7, 1, 1}};
        for (int[] d : due) {
            String call = "slips(" + d[0] + ", " + d[1] + ", 0, " + d[2] + ", ";
            check.due(call + "0)", x.slips(d[0], d[1], 0, d[2], 0), d[3]);
            check.due(call + "1)", x.slips(d[0], d[1], 0, d[2], 1), d[4]);
        }
    }

    private void setsAreBits() {
        check.says("Sets are bits.");
        LetterOunces x = Check.reading("p9,60;o1;o1;o1;o1;o1;o1;l32,0;l33,1;l0,0;v63,0;l1,1;l63,63;l16,0;");
        check.due("letter(0, 0), word 5 alone", x.letter(0, 0), 32);
        check.due("letter(1, 2)", x.letter(1, 2), 32);
        check.due("letter(2, 0), none", x.letter(2, 0), 0);
        check.due("letter(3, 2), all", x.letter(3, 2), 63);
        check.due("days(1), all but letter 3", x.days(1), 127 - 8);
        check.due("load(99, 0), letter 3 alone", x.load(99, 0), 8);
    }

    private void orderOfRefusals() {
        check.says("Refusals are answers, the first of these that fits, but as told:"
                + " BAD (a number is not as told; there is no such thing), STATE (as told), FULL (as told), then FINDINGS,");
        LetterOunces bare = Setup.BARE.made();
        check.due("image(2), no POST: BAD ahead of STATE", bare.image(2), Check.BAD);
        check.due("restore(2), none kept: BAD ahead of STATE", bare.restore(2), Check.BAD);
        check.due("days(0), no POST: as told, STATE ahead of BAD", bare.days(0), Check.STATE);
        check.due("strap(100), no POST", bare.strap(100), Check.STATE);
        check.due("limit(61), no POST", bare.limit(61), Check.STATE);
        check.due("later(61, 2), no POST", bare.later(61, 2), Check.STATE);
        check.due("load(100, 2), no POST", bare.load(100, 2), Check.STATE);
        check.due("drawn(61, 0, 2), no POST", bare.drawn(61, 0, 2), Check.STATE);
        check.due("fits(0, 0, 0, 1, 0), no POST and no ROW: BAD ahead of NULL", bare.fits(0, 0, 0, 1, 0), Check.BAD);
        LetterOunces taped = Setup.TAPED.made();
        check.due("feed(256), no room: BAD ahead of FULL", taped.feed(256), Check.BAD);
        check.due("feed(-1), no room: BAD ahead of FULL", taped.feed(-1), Check.BAD);
        LetterOunces rich = Setup.RICH.made();
        check.due("say(0, 4): BAD ahead of STATE", rich.say(0, 4), Check.BAD);
        check.due("unsay(5, 0): BAD ahead of STATE", rich.unsay(5, 0), Check.BAD);
        check.due("row(8, 0, -1): BAD ahead of SIZE", rich.row(8, 0, -1), Check.BAD);
        check.due("row(0, 3, -1): BAD ahead of SIZE", rich.row(0, 3, -1), Check.BAD);
        check.due("copy(0, 0, 8, 0, 0): BAD ahead of NULL", rich.copy(0, 0, 8, 0, 0), Check.BAD);
        check.due("copy(8, 0, 0, 0, 0): BAD ahead of NULL", rich.copy(8, 0, 0, 0, 0), Check.BAD);
        check.due("fits(0, 0, 0, 0, 0): BAD ahead of NULL", rich.fits(0, 0, 0, 0, 0), Check.BAD);
        check.due("fits(0, 1, -1, 13, 0): BAD ahead of PLACE", rich.fits(0, 1, -1, 13, 0), Check.BAD);
        check.due("as(5, 2): BAD ahead of KIND", rich.as(5, 2), Check.BAD);
        check.due("as(3, 6): BAD ahead of KIND", rich.as(3, 6), Check.BAD);
    }

    private void findings() {
        check.says("-1000010 less 1 NULL (a ROW that is missing), 2 PLACE (no such place of a ROW),"
                + " 3 KIND (a LETTER that is not that), 4 SIZE (fewer than none), 5 STORE (ROWS of two LANES).");
        LetterOunces x = Setup.RICH.made();
        check.due("drop(0)", x.drop(0), -1000011);
        check.due("set(1, 4, 0)", x.set(1, 4, 0), -1000012);
        check.due("as(0, 4)", x.as(0, 4), -1000013);
        check.due("row(0, 0, -1)", x.row(0, 0, -1), -1000014);
        check.due("copy(1, 0, 5, 0, 0)", x.copy(1, 0, 5, 0, 0), -1000015);
    }

    private void firstInTime() {
        check.says("of several the first in time:");
        LetterOunces x = Setup.RICH.made();
        check.due("set(0, -1, 0): no ROW, so no place is looked for", x.set(0, -1, 0), Check.NULL);
        check.due("copy(0, -1, 1, 9, -1)", x.copy(0, -1, 1, 9, -1), Check.NULL);
        check.due("copy(1, -1, 0, 9, -1)", x.copy(1, -1, 0, 9, -1), Check.NULL);
        check.due("copy(1, -1, 5, 9, -1): the lanes are looked at first", x.copy(1, -1, 5, 9, -1), Check.STORE);
        check.due("copy(5, 9, 6, 9, 99)", x.copy(5, 9, 6, 9, 99), Check.STORE);
        check.due("copy(6, 0, 7, 0, 1)", x.copy(6, 0, 7, 0, 1), Check.PLACE);
        check.due("fits(0, 0, -1, 12, 0)", x.fits(0, 0, -1, 12, 0), Check.NULL);
    }

    private void refusedChangesNothing() {
        check.says("What is refused, or found, changes nothing but status().");
        Sight.refused(check, Setup.BARE, "days(1)", x -> x.days(1), Check.STATE);
        Sight.refused(check, Setup.BARE, "say(0, 0)", x -> x.say(0, 0), Check.BAD);
        Sight.refused(check, Setup.BARE, "strap(1)", x -> x.strap(1), Check.STATE);
        Sight.refused(check, Setup.BARE, "limit(1)", x -> x.limit(1), Check.STATE);
        Sight.refused(check, Setup.BARE, "undo()", x -> x.undo(), Check.STATE);
        Sight.refused(check, Setup.BARE, "image(0)", x -> x.image(0), Check.STATE);
        Sight.refused(check, Setup.BARE, "restore(0)", x -> x.restore(0), Check.STATE);
        Sight.refused(check, Setup.RICH, "say(0, 1)", x -> x.say(0, 1), Check.STATE);
        Sight.refused(check, Setup.RICH, "unsay(0, 0)", x -> x.unsay(0, 0), Check.STATE);
        Sight.refused(check, Setup.RICH, "back(2)", x -> x.back(2), Check.STATE);
        Sight.refused(check, Setup.RICH, "days(25)", x -> x.days(25), Check.BAD);
        Sight.refused(check, Setup.RICH, "strap(100)", x -> x.strap(100), Check.BAD);
        Sight.refused(check, Setup.RICH, "limit(61)", x -> x.limit(61), Check.BAD);
        Sight.refused(check, Setup.RICH, "ask(0, 2)", x -> x.ask(0, 2), Check.BAD);
        Sight.refused(check, Setup.TAPED, "feed(65)", x -> x.feed(65), Check.FULL);
        Sight.refused(check, Setup.BUSY, "restore(1)", x -> x.restore(1), Check.STATE);
        Sight.refused(check, Setup.BUSY, "days(0)", x -> x.days(0), Check.BAD);
        Sight.refused(check, Setup.BUSY, "back(0)", x -> x.back(0), Check.STATE);
    }

    private void foundChangesStatusAlone() {
        check.says("What is refused, or found, changes nothing but status().");
        Sight.refused(check, Setup.RICH, "row(1, 2, -1)", x -> x.row(1, 2, -1), Check.SIZE);
        Sight.refused(check, Setup.RICH, "row(0, 2, -1)", x -> x.row(0, 2, -1), Check.SIZE);
        Sight.refused(check, Setup.RICH, "set(1, 4, 9)", x -> x.set(1, 4, 9), Check.PLACE);
        Sight.refused(check, Setup.RICH, "set(0, 0, 9)", x -> x.set(0, 0, 9), Check.NULL);
        Sight.refused(check, Setup.RICH, "copy(1, 0, 5, 0, 1)", x -> x.copy(1, 0, 5, 0, 1), Check.STORE);
        Sight.refused(check, Setup.RICH, "copy(1, 0, 1, 1, 4)", x -> x.copy(1, 0, 1, 1, 4), Check.PLACE);
        Sight.refused(check, Setup.RICH, "copy(1, 0, 0, 0, 1)", x -> x.copy(1, 0, 0, 0, 1), Check.NULL);
        Sight.refused(check, Setup.RICH, "drop(0)", x -> x.drop(0), Check.NULL);
        Sight.refused(check, Setup.RICH, "fits(0, 1, 4, 1, 1)", x -> x.fits(0, 1, 4, 1, 1), Check.PLACE);
        Sight.refused(check, Setup.RICH, "fits(0, 0, 0, 1, 1)", x -> x.fits(0, 0, 0, 1, 1), Check.NULL);
        Sight.refused(check, Setup.RICH, "as(0, 2)", x -> x.as(0, 2), Check.KIND);
    }
}
