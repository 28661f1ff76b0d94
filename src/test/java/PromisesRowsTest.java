/** Promises 1 to 5, sentence by sentence, at their ends. */
final class PromisesRowsTest {
    private final Check check = new Check();

    public static void main(String[] args) {
        PromisesRowsTest test = new PromisesRowsTest();
        test.newObject();
        test.row();
        test.rowRefused();
        test.set();
        test.setRefused();
        test.copy();
        test.copyRefused();
        test.copyPlaces();
        test.drop();
        test.dropRefused();
        test.check.end();
    }

    private void newObject() {
        check.says(1, "No POST.");
        LetterOunces x = new LetterOunces();
        for (int what = 0; what <= 9; what++) {
            check.due("count(" + what + ")", x.count(what), 0);
        }
        check.due("days(1)", x.days(1), Check.STATE);
        check.due("strap(0)", x.strap(0), Check.STATE);
        check.due("limit(0)", x.limit(0), Check.STATE);
        check.due("later(0, 0)", x.later(0, 0), Check.STATE);
        check.due("load(0, 0)", x.load(0, 0), Check.STATE);
        check.due("drawn(0, 1, 0)", x.drawn(0, 1, 0), Check.STATE);
        check.due("image(0)", x.image(0), Check.STATE);
        check.due("restore(0)", x.restore(0), Check.STATE);
        check.due("undo()", x.undo(), Check.STATE);
        check.due("kind(0)", x.kind(0), Check.BAD);
        check.due("ounces(0)", x.ounces(0), Check.BAD);
        check.due("fault()", x.fault(), 0);
        check.due("status()", x.status(), 0);
        check.due("trace(0)", x.trace(0), Check.NONE);
        LetterOunces other = Check.reading(Check.FIVE);
        other.days(1);
        check.due("one object is not another: days(1)", x.days(1), Check.STATE);
        check.due("nor a new one", new LetterOunces().count(2), 0);
    }

    private void row() {
        check.says(2, "A ROW of a LANE with n ITEMS, in place of what is there: n.");
        for (int lane = 0; lane <= 2; lane++) {
            for (int n = 0; n <= 40; n++) {
                LetterOunces x = Setup.RICH.made();
                check.due("row(1, " + lane + ", " + n + ")", x.row(1, lane, n), n);
                check.due("status()", x.status(), 0);
                check.due("count(0)", x.count(0), 4);
                check.due("its last ITEM", x.set(1, n - 1, 7), n == 0 ? Check.PLACE : 7);
                check.due("none behind it", x.set(1, n, 7), Check.PLACE);
                check.due("drop(1)", x.drop(1), n);
            }
        }
        LetterOunces x = Check.reading("p0,60;o9;l1,1;");
        x.row(7, 0, 40);
        x.set(7, 0, 9);
        x.set(7, 39, 9);
        x.row(6, 0, 40);
        x.set(6, 39, 8);
        check.due("row(7, 0, 40) anew", x.row(7, 0, 40), 40);
        check.due("its first ITEM is 0", x.fits(0, 7, 0, 1, 1), 1);
        check.due("its last ITEM is 0", x.fits(0, 7, 39, 1, 1), 1);
        check.due("the row beside it is as it was", x.fits(0, 6, 39, 1, 1), 0);
    }

    private void rowRefused() {
        check.says(2, "BAD: ROW, LANE, n above 40; SIZE.");
        check.ends("row(v, 0, 1)", v -> Setup.RICH.made().row(v, 0, 1), 0, 7);
        check.ends("row(0, v, 1)", v -> Setup.RICH.made().row(0, v, 1), 0, 2);
        check.ends("row(0, 0, v)", v -> Setup.RICH.made().row(0, 0, v), 0, Check.SIZE, 40, Check.BAD);
        Sight.refused(check, Setup.RICH, "row(8, 0, 1)", x -> x.row(8, 0, 1), Check.BAD);
        Sight.refused(check, Setup.RICH, "row(1, 3, 1)", x -> x.row(1, 3, 1), Check.BAD);
        Sight.refused(check, Setup.RICH, "row(1, 0, 41)", x -> x.row(1, 0, 41), Check.BAD);
        Sight.refused(check, Setup.RICH, "row(1, 0, -1)", x -> x.row(1, 0, -1), Check.SIZE);
        Sight.refused(check, Setup.RICH, "row(0, 0, LOW)", x -> x.row(0, 0, Check.LOW), Check.SIZE);
        Sight.refused(check, Setup.RICH, "row(-1, 0, -1)", x -> x.row(-1, 0, -1), Check.BAD);
    }

    private void set() {
        check.says(3, "ITEM i becomes v, its lowest bits, as many as the LANE has: what it is then.");
        LetterOunces x = new LetterOunces();
        int[] given = {0, 1, -1, 127, 128, -128, -129, 255, 256, 32767, 32768, -32768, -32769, 65535, 65536, 65664,
            Check.HIGH, Check.LOW, Check.HIGH - 128};
        int[][] due = {{0, 1, -1, 127, -128, -128, 127, -1, 0, -1, 0, 0, -1, -1, 0, -128, -1, 0, 127},
            {0, 1, -1, 127, 128, -128, -129, 255, 256, 32767, -32768, -32768, 32767, -1, 0, 128, -1, 0, -129}, given};
        for (int lane = 0; lane <= 2; lane++) {
            x.row(lane, lane, 40);
            for (int k = 0; k < given.length; k++) {
                check.due("lane " + lane + ", set(.., 0, " + given[k] + ")", x.set(lane, 0, given[k]), due[lane][k]);
                check.due("lane " + lane + ", set(.., 39, " + given[k] + ")", x.set(lane, 39, given[k]), due[lane][k]);
            }
            check.due("status()", x.status(), 0);
        }
        // What it became is what fits() is told: the letter weighs 0, and 256 is 0 in a byte.
        LetterOunces y = Check.reading("p0,60;o9;l1,1;");
        for (int lane = 0; lane <= 2; lane++) {
            y.row(0, lane, 1);
            y.set(0, 0, 256);
            check.due("256 by lane " + lane, y.fits(0, 0, 0, 1, 1), lane == 0 ? 1 : 0);
            y.set(0, 0, 65536);
            check.due("65536 by lane " + lane, y.fits(0, 0, 0, 1, 1), lane <= 1 ? 1 : 0);
        }
    }

    private void setRefused() {
        check.says(3, "BAD: ROW; NULL; PLACE.");
        check.ends("set(v, 0, 1)", v -> eightRows().set(v, 0, 1), 0, 7);
        check.ends("set(1, v, 1)", v -> Setup.RICH.made().set(1, v, 1), 0, Check.PLACE, 3, Check.PLACE);
        check.ends("set(7, v, 1)", v -> Setup.RICH.made().set(7, v, 1), 0, Check.PLACE, 39, Check.PLACE);
        Sight.refused(check, Setup.RICH, "set(8, 0, 1)", x -> x.set(8, 0, 1), Check.BAD);
        Sight.refused(check, Setup.RICH, "set(0, 0, 1)", x -> x.set(0, 0, 1), Check.NULL);
        Sight.refused(check, Setup.RICH, "set(0, 40, 1)", x -> x.set(0, 40, 1), Check.NULL);
        Sight.refused(check, Setup.RICH, "set(1, -1, 1)", x -> x.set(1, -1, 1), Check.PLACE);
        Sight.refused(check, Setup.RICH, "set(1, 4, 1)", x -> x.set(1, 4, 1), Check.PLACE);
        Sight.refused(check, Setup.RICH, "set(6, 0, 1)", x -> x.set(6, 0, 1), Check.PLACE);
        Sight.refused(check, Setup.RICH, "set(6, 40, 1)", x -> x.set(6, 40, 1), Check.PLACE);
    }

    private static LetterOunces eightRows() {
        LetterOunces x = new LetterOunces();
        for (int row = 0; row <= 7; row++) {
            x.row(row, 2, 4);
        }
        return x;
    }

    /** Words of 1, 2, 4 and 8 ounces: the set that leaves an item unsaid is 15 less the item, as bits. */
    private static LetterOunces scale() {
        LetterOunces x = Check.reading("p0,60;o1;o2;o4;o8;l15,0;");
        x.row(0, 0, 5);
        Check.setAll(x, 0, 1, 2, 3, 4, 5);
        x.row(1, 0, 3);
        Check.setAll(x, 1, 11, 12, 13);
        return x;
    }

    private void copied(int a, int i, int b, int j, int n, int[] first, int[] second) {
        LetterOunces x = scale();
        String call = "copy(" + a + ", " + i + ", " + b + ", " + j + ", " + n + ")";
        check.due(call, x.copy(a, i, b, j, n), n);
        check.due("status()", x.status(), 0);
        for (int k = 0; k < 5; k++) {
            check.due(call + ", ITEM " + k + " of 0", 15 - x.fits(0, 0, k, 1, 2), first[k]);
        }
        for (int k = 0; k < 3; k++) {
            check.due(call + ", ITEM " + k + " of 1", 15 - x.fits(0, 1, k, 1, 2), second[k]);
        }
    }

    private void copy() {
        check.says(4, "n ITEMS of a from i on come to b from j on, as they were ahead: n.");
        int[] zero = {1, 2, 3, 4, 5};
        int[] one = {11, 12, 13};
        copied(0, 0, 0, 1, 4, new int[] {1, 1, 2, 3, 4}, one);
        copied(0, 1, 0, 0, 4, new int[] {2, 3, 4, 5, 5}, one);
        copied(0, 0, 0, 0, 5, zero, one);
        copied(0, 0, 0, 4, 1, new int[] {1, 2, 3, 4, 1}, one);
        copied(0, 2, 1, 0, 3, zero, new int[] {3, 4, 5});
        copied(1, 0, 0, 2, 3, new int[] {1, 2, 11, 12, 13}, one);
        copied(1, 2, 0, 4, 1, new int[] {1, 2, 3, 4, 13}, one);
        copied(0, 0, 1, 0, 0, zero, one);
        copied(0, 5, 1, 3, 0, zero, one);
        copied(0, 5, 0, 0, 0, zero, one);
        LetterOunces x = scale();
        x.copy(0, 0, 1, 0, 3);
        x.set(0, 0, 9);
        check.due("ITEMS come, ROWS stay two", 15 - x.fits(0, 1, 0, 1, 2), 1);
    }

    private void copyRefused() {
        check.says(4, "BAD: ROWS; NULL; STORE;");
        check.ends("copy(v, 0, 0, 0, 1)", v -> eightRows().copy(v, 0, 0, 0, 1), 0, 7);
        check.ends("copy(0, 0, v, 0, 1)", v -> eightRows().copy(0, 0, v, 0, 1), 0, 7);
        Sight.refused(check, Setup.RICH, "copy(8, 0, 1, 0, 1)", x -> x.copy(8, 0, 1, 0, 1), Check.BAD);
        Sight.refused(check, Setup.RICH, "copy(1, 0, -1, 0, 1)", x -> x.copy(1, 0, -1, 0, 1), Check.BAD);
        Sight.refused(check, Setup.RICH, "copy(0, 0, 1, 0, 0)", x -> x.copy(0, 0, 1, 0, 0), Check.NULL);
        Sight.refused(check, Setup.RICH, "copy(1, 0, 0, 0, 0)", x -> x.copy(1, 0, 0, 0, 0), Check.NULL);
        Sight.refused(check, Setup.RICH, "copy(0, 0, 0, 0, -1)", x -> x.copy(0, 0, 0, 0, -1), Check.NULL);
        Sight.refused(check, Setup.RICH, "copy(1, 0, 5, 0, 1)", x -> x.copy(1, 0, 5, 0, 1), Check.STORE);
        Sight.refused(check, Setup.RICH, "copy(5, 0, 7, 0, 1)", x -> x.copy(5, 0, 7, 0, 1), Check.STORE);
        Sight.refused(check, Setup.RICH, "copy(7, 0, 1, 0, 0)", x -> x.copy(7, 0, 1, 0, 0), Check.STORE);
        Sight.refused(check, Setup.RICH, "copy(1, -1, 5, -1, -1)", x -> x.copy(1, -1, 5, -1, -1), Check.STORE);
    }

    private void copyPlaces() {
        check.says(4, "PLACE (i, j, n below 0, or beyond an end).");
        check.ends("copy(0, v, 1, 0, 2)", v -> scale().copy(0, v, 1, 0, 2), 0, Check.PLACE, 3, Check.PLACE);
        check.ends("copy(0, v, 1, 0, 0)", v -> scale().copy(0, v, 1, 0, 0), 0, Check.PLACE, 5, Check.PLACE);
        check.ends("copy(0, 0, 1, v, 2)", v -> scale().copy(0, 0, 1, v, 2), 0, Check.PLACE, 1, Check.PLACE);
        check.ends("copy(0, 0, 1, v, 0)", v -> scale().copy(0, 0, 1, v, 0), 0, Check.PLACE, 3, Check.PLACE);
        check.ends("copy(0, 0, 1, 0, v)", v -> scale().copy(0, 0, 1, 0, v), 0, Check.PLACE, 3, Check.PLACE);
        check.ends("copy(1, 0, 0, 0, v)", v -> scale().copy(1, 0, 0, 0, v), 0, Check.PLACE, 3, Check.PLACE);
        check.ends("copy(0, 2, 0, 1, v)", v -> scale().copy(0, 2, 0, 1, v), 0, Check.PLACE, 3, Check.PLACE);
        check.ends("copy(0, 1, 0, 2, v)", v -> scale().copy(0, 1, 0, 2, v), 0, Check.PLACE, 3, Check.PLACE);
        LetterOunces x = scale();
        check.due("copy(0, HIGH, 1, 0, HIGH): the sum wraps", x.copy(0, Check.HIGH, 1, 0, Check.HIGH), Check.PLACE);
        check.due("copy(0, 1, 1, HIGH, HIGH)", x.copy(0, 1, 1, Check.HIGH, Check.HIGH), Check.PLACE);
        check.due("copy(0, LOW, 1, LOW, LOW)", x.copy(0, Check.LOW, 1, Check.LOW, Check.LOW), Check.PLACE);
        check.due("copy(0, LOW, 1, 0, HIGH)", x.copy(0, Check.LOW, 1, 0, Check.HIGH), Check.PLACE);
        check.due("copy(0, 5, 1, 0, LOW)", x.copy(0, 5, 1, 0, Check.LOW), Check.PLACE);
        Sight.refused(check, Setup.RICH, "copy(1, 1, 1, 0, 4)", y -> y.copy(1, 1, 1, 0, 4), Check.PLACE);
        Sight.refused(check, Setup.RICH, "copy(1, 0, 1, 3, 2)", y -> y.copy(1, 0, 1, 3, 2), Check.PLACE);
        Sight.refused(check, Setup.RICH, "copy(6, 0, 7, 0, 1)", y -> y.copy(6, 0, 7, 0, 1), Check.PLACE);
        Sight.refused(check, Setup.RICH, "copy(7, 0, 6, 0, 1)", y -> y.copy(7, 0, 6, 0, 1), Check.PLACE);
        Sight.refused(check, Setup.RICH, "copy(7, 40, 7, 0, 1)", y -> y.copy(7, 40, 7, 0, 1), Check.PLACE);
    }

    private void drop() {
        check.says(5, "A ROW is missing from now on: how many ITEMS it had.");
        for (int row = 0; row <= 7; row++) {
            for (int n : new int[] {0, 1, 40}) {
                LetterOunces x = Check.reading(Check.FIVE);
                x.row(row, 1, n);
                check.due("drop(" + row + ")", x.drop(row), n);
                check.due("status()", x.status(), 0);
                check.due("count(0)", x.count(0), 0);
                check.due("drop(" + row + ") again", x.drop(row), Check.NULL);
                check.due("set()", x.set(row, 0, 0), Check.NULL);
                check.due("copy()", x.copy(row, 0, row, 0, 0), Check.NULL);
                check.due("fits()", x.fits(0, row, 0, 1, 0), Check.NULL);
                check.due("row() makes it anew", x.row(row, 0, 2), 2);
                check.due("set()", x.set(row, 1, 3), 3);
            }
        }
    }

    private void dropRefused() {
        check.says(5, "BAD; NULL.");
        check.ends("drop(v)", v -> eightRows().drop(v), 0, 7);
        Sight.refused(check, Setup.RICH, "drop(8)", x -> x.drop(8), Check.BAD);
        Sight.refused(check, Setup.RICH, "drop(-1)", x -> x.drop(-1), Check.BAD);
        Sight.refused(check, Setup.RICH, "drop(0)", x -> x.drop(0), Check.NULL);
        Sight.refused(check, Setup.BARE, "drop(2)", x -> x.drop(2), Check.NULL);
    }
}
