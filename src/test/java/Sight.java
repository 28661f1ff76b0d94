import java.util.ArrayList;
import java.util.List;
import java.util.function.Consumer;
import java.util.function.ToIntFunction;

/**
 * All that can be seen of an object but status(). Much is seen only by calls that change it, so an object is made anew
 * for each look, by the same calls; none comes to its 512th call.
 */
final class Sight {
    /** A plain letter whose weight of 0 to 33 tells one least set of what it has said: items of rows are seen by it. */
    private static final String SCALE = "p0,60;o1;o2;o4;o8;o9;o9;l63,0;";

    private final List<Integer> seen = new ArrayList<>();

    static List<Integer> of(Consumer<LetterOunces> setup) {
        Sight sight = new Sight();
        sight.look(made(setup));
        sight.lookAtActs(made(setup));
        for (int k = 0; k <= 1; k++) {
            LetterOunces x = made(setup);
            sight.seen.add(x.restore(k));
            sight.look(x);
        }
        sight.lookAtTape(made(setup), "");
        sight.lookAtTape(made(setup), ",0;");
        for (int row = 0; row <= 7; row++) {
            sight.lookAtRow(made(setup), row);
        }
        return sight.seen;
    }

    private static LetterOunces made(Consumer<LetterOunces> setup) {
        LetterOunces x = new LetterOunces();
        setup.accept(x);
        return x;
    }

    private void look(LetterOunces x) {
        for (int what = 0; what <= 9; what++) {
            seen.add(x.count(what));
        }
        seen.add(x.fault());
        for (int i = 0; i <= 16; i++) {
            seen.add(x.trace(i));
        }
        for (int letter = 0; letter < 7; letter++) {
            for (int what = 0; what <= 5; what++) {
                seen.add(x.letter(letter, what));
            }
            seen.add(x.kind(letter));
            seen.add(x.ounces(letter));
        }
        for (int d = 0; d <= 3; d++) {
            seen.add(x.later(d, 0));
            seen.add(x.later(d, 1));
        }
    }

    private void lookAtActs(LetterOunces x) {
        for (int act = 0; act <= 24; act++) {
            seen.add(x.undo());
            for (int what = 3; what <= 7; what++) {
                seen.add(x.count(what));
            }
            for (int letter = 0; letter < 7; letter++) {
                seen.add(x.letter(letter, 1));
            }
        }
    }

    private void lookAtTape(LetterOunces x, String rest) {
        Check.feedAll(x, rest);
        seen.add(x.post());
        look(x);
    }

    private void lookAtRow(LetterOunces x, int row) {
        x.post();
        Check.feedAll(x, SCALE);
        x.post();
        for (int i = 0; i <= 40; i++) {
            seen.add(x.fits(0, row, i, 1, 2));
        }
        int other = (row + 1) % 8;
        for (int lane = 0; lane <= 2; lane++) {
            x.row(other, lane, 0);
            seen.add(x.copy(row, 0, other, 0, 0));
        }
        seen.add(x.drop(row));
    }

    /** A call that is refused, or found: its answer, that status() tells a finding alone, and that all else stays. */
    static void refused(Check check, Setup setup, String call, ToIntFunction<LetterOunces> ask, int due) {
        LetterOunces x = made(setup);
        int statusBefore = x.status();
        check.due(setup + ": " + call, ask.applyAsInt(x), due);
        boolean isFound = due <= Check.NULL && due >= Check.STORE;
        check.due(setup + ": status() behind " + call, x.status(), isFound ? Check.NULL + 1 - due : statusBefore);
        List<Integer> before = of(setup);
        List<Integer> behind = of(y -> {
            setup.accept(y);
            ask.applyAsInt(y);
        });
        check.due(setup + ": " + call + " changes nothing", before.equals(behind) ? 0 : 1, 0);
    }

    /** A call that only tells something: all stays as it was. */
    static void unchanged(Check check, Setup setup, String call, ToIntFunction<LetterOunces> ask) {
        List<Integer> behind = of(y -> {
            setup.accept(y);
            ask.applyAsInt(y);
        });
        check.due(setup + ": " + call + " changes nothing", of(setup).equals(behind) ? 0 : 1, 0);
        check.due(setup + ": " + call + " is not refused", isRefused(made(setup), ask), 0);
    }

    private static int isRefused(LetterOunces x, ToIntFunction<LetterOunces> ask) {
        return Check.isRefusal(ask.applyAsInt(x)) ? 1 : 0;
    }
}
