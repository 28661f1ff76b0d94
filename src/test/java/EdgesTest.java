import java.lang.reflect.InvocationTargetException;
import java.lang.reflect.Method;
import java.lang.reflect.Modifier;
import java.util.Arrays;

/** Every call with every mix of extreme arguments, in several states: nothing is thrown, and refusals change nothing. */
final class EdgesTest {
    private static final int[] VALUES = {Integer.MIN_VALUE, -1000000, -1, 0, 1, 6, 41, 128, 1000000, Integer.MAX_VALUE};
    private static final String[] TEXTS = {"", Check.FIVE, "p0,0;o1;b0,0;",
        "p99,60;o9;o9;o9;o9;o9;o9;l63,0;v63,0;b63,0;c63,0;w63,0;v63,63;b63,1;"};

    private final Check check = new Check();

    public static void main(String[] args) throws ReflectiveOperationException {
        EdgesTest test = new EdgesTest();
        for (String text : TEXTS) {
            for (Method m : LetterOunces.class.getDeclaredMethods()) {
                if (Modifier.isPublic(m.getModifiers())) {
                    test.everyMix(text, m);
                }
            }
        }
        test.check.end();
    }

    private static LetterOunces made(String text) {
        LetterOunces x = text.isEmpty() ? new LetterOunces() : Check.reading(text);
        x.row(1, 0, 40);
        x.row(6, 2, 0);
        x.feed(255);
        x.days(1);
        return x;
    }

    private void everyMix(String text, Method m) throws ReflectiveOperationException {
        LetterOunces x = made(text);
        Object[] args = new Object[m.getParameterCount()];
        int mixes = (int) Math.pow(VALUES.length, args.length);
        for (int mix = 0; mix < mixes; mix++) {
            int rest = mix;
            for (int k = 0; k < args.length; k++) {
                args[k] = VALUES[rest % VALUES.length];
                rest /= VALUES.length;
            }
            int[] before = state(x);
            int answer = answer(x, m, args);
            boolean isRefused = answer <= Check.BAD && answer >= Check.STORE;
            if (isRefused && !Arrays.equals(before, state(x))) {
                check.due(m.getName() + Arrays.toString(args) + " was refused, yet changed something", 1, 0);
            }
            // An object is good for 512 calls; looking at its state is not counted here, as it changes nothing.
            x = mix % 400 == 399 ? made(text) : x;
        }
        check.due(m.getName(), 0, 0);
    }

    private int answer(LetterOunces x, Method m, Object[] args) throws IllegalAccessException {
        try {
            int answer = (Integer) m.invoke(x, args);
            // set() answers whatever was put; no other answer is as far off as the numbers given here.
            boolean isFarOff = answer > 1000000 || answer < Check.FAULTY - 100;
            check.due(m.getName() + Arrays.toString(args), isFarOff && !m.getName().equals("set") ? answer : 0, 0);
            return answer;
        } catch (InvocationTargetException e) {
            check.due(m.getName() + Arrays.toString(args) + " threw " + e.getCause(), 1, 0);
            return 0;
        }
    }

    private static int[] state(LetterOunces x) {
        int[] state = new int[60];
        for (int what = 0; what <= 9; what++) {
            state[what] = x.count(what);
        }
        for (int letter = 0; letter < 7; letter++) {
            for (int what = 0; what <= 5; what++) {
                state[10 + 6 * letter + what] = x.letter(letter, what);
            }
        }
        state[52] = x.fault();
        for (int i = 0; i < 7; i++) {
            state[53 + i] = x.trace(i);
        }
        return state;
    }
}
