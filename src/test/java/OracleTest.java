import java.lang.reflect.Method;
import java.util.ArrayList;
import java.util.Arrays;
import java.util.HashMap;
import java.util.List;
import java.util.Map;
import java.util.Random;

/** Runs of drawn calls, the same each time; every answer is held against the Oracle's. */
final class OracleTest {
    private static final int RUNS = 700, CALLS = 500;

    /** Of each call how often it is drawn, and from where to where its arguments mostly are. */
    private static final String[] CALLS_DRAWN = {
        "row 4 0 7 0 2 -1 40", "set 8 0 7 0 12 -5 110", "copy 4 0 7 0 20 0 7 0 20 0 20", "drop 1 0 7",
        "feed 1 0 255", "post 1", "fault 1", "days 8 1 5", "say 8 0 6 0 5", "unsay 6 0 6 0 5", "back 8 0 6",
        "strap 3 0 60", "limit 3 0 60", "undo 5", "letter 12 0 6 0 5", "ounces 1 0 5", "ahead 8 0 6 0 20 0 1",
        "later 5 0 20 0 1", "when 5 0 6", "lighten 5 0 6 0 99 0 1", "guess 5 0 6 0 1", "load 5 0 99 0 1",
        "share 5 0 6 0 999", "fits 3 0 6 0 7 0 12 1 12 0 4", "slips 4 0 6 0 60 0 12 0 10 0 1",
        "drawn 5 0 60 1 999999 0 1", "image 2 0 1", "restore 1 0 1", "kind 1 0 6", "as 5 0 6 0 5", "ask 5 0 6 0 1",
        "trace 5 0 7", "count 8 0 9", "status 5"};

    private static final Map<String, Method> MINE = methods(LetterOunces.class);
    private static final Map<String, Method> ITS = methods(Oracle.class);

    private final Check check = new Check();
    private final List<String> bag = new ArrayList<>();
    private Random random;
    private LetterOunces mine;
    private Oracle its;
    private List<String> run;

    public static void main(String[] args) throws ReflectiveOperationException {
        new OracleTest().runAll();
    }

    private static Map<String, Method> methods(Class<?> of) {
        Map<String, Method> methods = new HashMap<>();
        for (Method m : of.getDeclaredMethods()) {
            if (Arrays.stream(m.getParameterTypes()).allMatch(t -> t == int.class) && m.getReturnType() == int.class) {
                m.setAccessible(true);
                methods.putIfAbsent(m.getName() + m.getParameterCount(), m);
            }
        }
        return methods;
    }

    private void runAll() throws ReflectiveOperationException {
        for (String drawn : CALLS_DRAWN) {
            int times = Integer.parseInt(drawn.split(" ")[1]);
            for (int k = 0; k < times; k++) {
                bag.add(drawn);
            }
        }
        for (int seed = 0; seed < RUNS; seed++) {
            random = new Random(seed);
            mine = new LetterOunces();
            its = new Oracle();
            run = new ArrayList<>();
            runOnce(seed);
        }
        check.end();
    }

    private void runOnce(int seed) throws ReflectiveOperationException {
        if (seed % 8 != 0) {
            tell();
        }
        while (run.size() < CALLS) {
            int draw = random.nextInt(100);
            if (draw == 0) {
                tell();
            } else if (draw < 3) {
                weighed();
            } else {
                call(bag.get(random.nextInt(bag.size())));
            }
        }
    }

    private void call(String drawn) throws ReflectiveOperationException {
        String[] parts = drawn.split(" ");
        Object[] args = new Object[parts.length / 2 - 1];
        for (int k = 0; k < args.length; k++) {
            int from = Integer.parseInt(parts[2 * k + 2]);
            int to = Integer.parseInt(parts[2 * k + 3]);
            args[k] = random.nextInt(40) == 0 ? wild(from, to) : from + random.nextInt(to - from + 1);
        }
        both(parts[0], args);
    }

    private int wild(int from, int to) {
        int[] wild = {from - 1, to + 1, -1, Integer.MIN_VALUE, Integer.MAX_VALUE, to + 32, to + 1, from - 1, 100, 61};
        return wild[random.nextInt(wild.length)];
    }

    private int both(String name, Object... args) throws ReflectiveOperationException {
        String key = name + args.length;
        int want = (Integer) ITS.get(key).invoke(its, args);
        int got = (Integer) MINE.get(key).invoke(mine, args);
        run.add(name + Arrays.toString(args) + " = " + want);
        check.due(got == want ? "" : String.join("\n", run), got, want);
        if (got != want) {
            check.end();
        }
        return got;
    }

    /** A row that tells what the post would, but for one item now and then. */
    private void weighed() throws ReflectiveOperationException {
        int letter = random.nextInt(7);
        int row = random.nextInt(8);
        int n = 1 + random.nextInt(5);
        both("row", row, random.nextInt(3), 8);
        for (int d = 1; d <= n; d++) {
            int weight = both("ahead", letter, d, 0);
            both("set", row, d + 1, random.nextInt(20) == 0 ? 0 : weight);
        }
        for (int what = 0; what <= 4; what++) {
            both("fits", letter, row, 2, n, what);
        }
    }

    private void tell() throws ReflectiveOperationException {
        StringBuilder text = new StringBuilder(textDrawn());
        if (random.nextInt(4) == 0) {
            String signs = "plvbcwoz,;0123456789 A";
            for (int k = 0; k <= random.nextInt(2); k++) {
                char c = signs.charAt(random.nextInt(signs.length()));
                int at = random.nextInt(text.length());
                int how = random.nextInt(4);
                if (how == 0) {
                    text.setCharAt(at, c);
                } else if (how == 1) {
                    text.insert(at, c);
                } else if (how == 2) {
                    text.deleteCharAt(at);
                } else {
                    text.setLength(at + 1);
                }
            }
        }
        for (int i = 0; i < text.length(); i++) {
            both("feed", (int) text.charAt(i));
        }
        both("post");
        both("fault");
    }

    private String textDrawn() {
        int words = 1 + random.nextInt(random.nextInt(20) == 0 ? 7 : 6);
        int letters = 1 + random.nextInt(random.nextInt(20) == 0 ? 8 : 7);
        StringBuilder text = new StringBuilder("p");
        text.append(random.nextInt(random.nextInt(3) == 0 ? 100 : 25)).append(',');
        text.append(random.nextInt(random.nextInt(3) == 0 ? 61 : 12)).append(';');
        for (int k = 0; k < words; k++) {
            text.append('o').append(1 + random.nextInt(9)).append(';');
        }
        for (int k = 0; k < letters; k++) {
            int would = random.nextInt(4) == 0 ? (1 << words) - 1 : random.nextInt(1 << words);
            int said = random.nextInt(2) == 0 ? 0 : would & random.nextInt(1 << words);
            text.append("lvbcw".charAt(random.nextInt(5))).append(would).append(',').append(said).append(';');
        }
        return text.toString();
    }
}
