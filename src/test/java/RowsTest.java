/** Promises 2 to 5, and what 34 and 35 say of rows. */
final class RowsTest {
    private static final int LOW = Integer.MIN_VALUE, HIGH = Integer.MAX_VALUE;

    public static void main(String[] args) {
        Check check = new Check();
        promise2row(check);
        promise3set(check);
        promise4copy(check);
        promise4copyRefused(check);
        promise5drop(check);
        promise35status(check);
        check.end();
    }

    private static void promise2row(Check check) {
        LetterOunces x = new LetterOunces();
        check.due("row(0, 0, 0)", x.row(0, 0, 0), 0);
        check.due("row(7, 2, 40)", x.row(7, 2, 40), 40);
        check.due("count(0)", x.count(0), 2);
        check.due("row(-1, 0, 1)", x.row(-1, 0, 1), Check.BAD);
        check.due("row(8, 0, 1)", x.row(8, 0, 1), Check.BAD);
        check.due("row(0, -1, 1)", x.row(0, -1, 1), Check.BAD);
        check.due("row(0, 3, 1)", x.row(0, 3, 1), Check.BAD);
        check.due("row(0, 0, 41)", x.row(0, 0, 41), Check.BAD);
        check.due("row(0, 3, -1): BAD is ahead", x.row(0, 3, -1), Check.BAD);
        check.due("row(0, 0, -1)", x.row(0, 0, -1), Check.SIZE);
        check.due("row(0, 0, LOW)", x.row(0, 0, LOW), Check.SIZE);
        x.row(1, 2, 3);
        x.set(1, 0, 70000);
        check.due("row(1, 2, -1) leaves the row", x.row(1, 2, -1), Check.SIZE);
        x.copy(1, 0, 7, 0, 3);
        check.due("set(7, 3, 5)", x.set(7, 3, 5), 5);
        check.due("row(1, 2, 2) in place of it", x.row(1, 2, 2), 2);
        check.due("count(0) is as before", x.count(0), 3);
        check.due("its items are 0: drop", x.drop(1), 2);
    }

    private static void promise3set(Check check) {
        LetterOunces x = new LetterOunces();
        x.row(0, 0, 2);
        x.row(1, 1, 2);
        x.row(2, 2, 2);
        check.due("set(0, 0, 127)", x.set(0, 0, 127), 127);
        check.due("set(0, 0, 128)", x.set(0, 0, 128), -128);
        check.due("set(0, 0, 256)", x.set(0, 0, 256), 0);
        check.due("set(0, 1, -129)", x.set(0, 1, -129), 127);
        check.due("set(1, 0, 32767)", x.set(1, 0, 32767), 32767);
        check.due("set(1, 0, 32768)", x.set(1, 0, 32768), -32768);
        check.due("set(1, 1, 65536)", x.set(1, 1, 65536), 0);
        check.due("set(2, 0, HIGH)", x.set(2, 0, HIGH), HIGH);
        check.due("set(2, 1, LOW)", x.set(2, 1, LOW), LOW);
        check.due("set(-1, 0, 0)", x.set(-1, 0, 0), Check.BAD);
        check.due("set(8, 0, 0)", x.set(8, 0, 0), Check.BAD);
        check.due("set(3, 0, 0)", x.set(3, 0, 0), Check.NULL);
        check.due("set(3, -1, 0): NULL is ahead", x.set(3, -1, 0), Check.NULL);
        check.due("set(0, -1, 0)", x.set(0, -1, 0), Check.PLACE);
        check.due("set(0, 2, 0)", x.set(0, 2, 0), Check.PLACE);
        check.due("set(0, LOW, 0)", x.set(0, LOW, 0), Check.PLACE);
        check.due("set(0, HIGH, 0)", x.set(0, HIGH, 0), Check.PLACE);
    }

    /** What a row holds is seen by fits alone: a card that weighs 7 on all days. */
    private static boolean holds(LetterOunces x, int row, int i) {
        return x.fits(0, row, i, 1, 0) == 1 << 4;
    }

    private static void promise4copy(Check check) {
        LetterOunces x = Check.reading("p0,60;o7;o7;c3,0;");
        x.row(0, 0, 6);
        Check.setAll(x, 0, 7, 1, 7, 1, 1, 1);
        check.due("copy(0, 0, 0, 1, 4) forwards", x.copy(0, 0, 0, 1, 4), 4);
        int[] forwards = {1, 1, 0, 1, 0, 0};
        for (int i = 0; i < 6; i++) {
            check.due("forwards, item " + i, holds(x, 0, i) ? 1 : 0, forwards[i]);
        }
        check.due("copy(0, 1, 0, 0, 4) backwards", x.copy(0, 1, 0, 0, 4), 4);
        int[] backwards = {1, 0, 1, 0, 0, 0};
        for (int i = 0; i < 6; i++) {
            check.due("backwards, item " + i, holds(x, 0, i) ? 1 : 0, backwards[i]);
        }
        x.row(1, 0, 2);
        check.due("copy(0, 2, 1, 1, 1)", x.copy(0, 2, 1, 1, 1), 1);
        check.due("item 0 stays", holds(x, 1, 0) ? 1 : 0, 0);
        check.due("item 1 came", holds(x, 1, 1) ? 1 : 0, 1);
        check.due("copy(0, 6, 1, 2, 0) at both ends", x.copy(0, 6, 1, 2, 0), 0);
        x.row(0, 0, 6);
        check.due("a new row is 0 again", holds(x, 0, 0) ? 1 : 0, 0);
    }

    private static void promise4copyRefused(Check check) {
        LetterOunces x = new LetterOunces();
        x.row(0, 0, 4);
        x.row(1, 1, 4);
        x.row(3, 0, 2);
        check.due("copy(-1, 0, 0, 0, 1)", x.copy(-1, 0, 0, 0, 1), Check.BAD);
        check.due("copy(0, 0, 8, 0, 1)", x.copy(0, 0, 8, 0, 1), Check.BAD);
        check.due("copy(2, 0, 8, 0, 1): BAD is ahead", x.copy(2, 0, 8, 0, 1), Check.BAD);
        check.due("copy(2, 0, 0, 0, 1)", x.copy(2, 0, 0, 0, 1), Check.NULL);
        check.due("copy(0, 0, 2, 0, 1)", x.copy(0, 0, 2, 0, 1), Check.NULL);
        check.due("copy(0, -1, 2, 0, 1): NULL is ahead", x.copy(0, -1, 2, 0, 1), Check.NULL);
        check.due("copy(0, 0, 1, 0, 1)", x.copy(0, 0, 1, 0, 1), Check.STORE);
        check.due("copy(0, -1, 1, 0, 1): STORE is ahead", x.copy(0, -1, 1, 0, 1), Check.STORE);
        check.due("copy(0, 0, 1, 0, 0): STORE of nothing, too", x.copy(0, 0, 1, 0, 0), Check.STORE);
        check.due("copy(0, -1, 3, 0, 1)", x.copy(0, -1, 3, 0, 1), Check.PLACE);
        check.due("copy(0, 0, 3, -1, 1)", x.copy(0, 0, 3, -1, 1), Check.PLACE);
        check.due("copy(0, 0, 3, 0, -1)", x.copy(0, 0, 3, 0, -1), Check.PLACE);
        check.due("copy(0, 4, 3, 0, 1)", x.copy(0, 4, 3, 0, 1), Check.PLACE);
        check.due("copy(0, 0, 3, 1, 2)", x.copy(0, 0, 3, 1, 2), Check.PLACE);
        check.due("copy(0, 5, 3, 0, 0)", x.copy(0, 5, 3, 0, 0), Check.PLACE);
        check.due("copy(0, HIGH, 3, 0, 1)", x.copy(0, HIGH, 3, 0, 1), Check.PLACE);
        check.due("copy(0, 1, 3, 1, HIGH)", x.copy(0, 1, 3, 1, HIGH), Check.PLACE);
        check.due("copy(0, HIGH, 3, HIGH, HIGH)", x.copy(0, HIGH, 3, HIGH, HIGH), Check.PLACE);
        check.due("copy(0, 0, 3, 0, LOW)", x.copy(0, 0, 3, 0, LOW), Check.PLACE);
    }

    private static void promise5drop(Check check) {
        LetterOunces x = new LetterOunces();
        x.row(4, 1, 9);
        check.due("drop(-1)", x.drop(-1), Check.BAD);
        check.due("drop(8)", x.drop(8), Check.BAD);
        check.due("drop(3)", x.drop(3), Check.NULL);
        check.due("drop(4)", x.drop(4), 9);
        check.due("drop(4) again", x.drop(4), Check.NULL);
        check.due("count(0)", x.count(0), 0);
        check.due("set(4, 0, 0)", x.set(4, 0, 0), Check.NULL);
        x.row(4, 1, 0);
        check.due("drop(4) of none", x.drop(4), 0);
    }

    private static void promise35status(Check check) {
        LetterOunces x = Check.reading("p0,60;o7;c1,0;");
        check.due("status()", x.status(), 0);
        x.row(0, 0, -1);
        check.due("status() of SIZE", x.status(), 4);
        x.row(8, 0, 1);
        check.due("status() is not of a BAD row", x.status(), 4);
        x.say(0, 5);
        x.days(0);
        x.feed(65);
        check.due("status() is not of calls without a row", x.status(), 4);
        x.row(0, 0, 3);
        check.due("status() of a row", x.status(), 0);
        x.set(1, 0, 0);
        check.due("status() of NULL", x.status(), 1);
        x.set(0, 0, 3);
        check.due("status() of set", x.status(), 0);
        x.set(0, 3, 0);
        check.due("status() of PLACE", x.status(), 2);
        x.copy(0, 0, 0, 1, 2);
        check.due("status() of copy", x.status(), 0);
        x.row(1, 1, 3);
        x.copy(0, 0, 1, 0, 1);
        check.due("status() of STORE", x.status(), 5);
        x.drop(1);
        check.due("status() of drop", x.status(), 0);
        x.drop(1);
        check.due("status() of a second drop", x.status(), 1);
        x.fits(0, 0, 0, 1, 0);
        check.due("status() of fits", x.status(), 0);
        x.fits(0, 0, 3, 1, 0);
        check.due("status() of fits, PLACE", x.status(), 2);
        x.as(0, 4);
        check.due("status() of as", x.status(), 0);
        x.as(0, 1);
        check.due("status() of KIND", x.status(), 3);
        x.as(0, 6);
        x.as(1, 0);
        x.fits(0, 0, 0, 13, 0);
        check.due("status() is not of BAD ones", x.status(), 3);
        check.due("status() once more", x.status(), 3);
    }
}
