import java.util.ArrayDeque;
import java.util.ArrayList;
import java.util.Deque;
import java.util.List;
import java.util.TreeSet;

/**
 * The document a second time, in another way: letters are objects of a tree of classes, rows are arrays whose findings
 * the Java machine itself makes, texts are cut into tokens first, days are never left out. Slow, and no model of style.
 */
final class Oracle {
    private static final int NONE = -1000000, BAD = -1000001, STATE = -1000002, FULL = -1000003;

    // ---- letters

    private interface Letter {
        int number();

        Stuff stuff();

        default int size() {
            stuff().trace.add(10);
            return stuff().would.size();
        }

        default int mark() {
            stuff().trace.add(20);
            return number();
        }

        int weight(int plain);

        TreeSet<Integer> blurts(List<Integer> ounces, int day);
    }

    private static final class Stuff {
        TreeSet<Integer> would = new TreeSet<>();
        TreeSet<Integer> said = new TreeSet<>();
        boolean waits = true;
        List<Integer> trace = new ArrayList<>();

        TreeSet<Integer> unsaid() {
            TreeSet<Integer> unsaid = new TreeSet<>(would);
            unsaid.removeAll(said);
            return unsaid;
        }
    }

    private static class Plain implements Letter {
        final int number;
        final Stuff stuff;

        Plain(int number, Stuff stuff) {
            this.number = number;
            this.stuff = stuff;
        }

        @Override public int number() {
            return number;
        }

        @Override public Stuff stuff() {
            return stuff;
        }

        @Override public int size() {
            stuff.trace.add(11);
            int size = Letter.super.size();
            return size + mark();
        }

        @Override public int mark() {
            stuff.trace.add(21);
            return Letter.super.mark() + stuff.said.size();
        }

        @Override public int weight(int plain) {
            return plain;
        }

        @Override public TreeSet<Integer> blurts(List<Integer> ounces, int day) {
            TreeSet<Integer> one = new TreeSet<>();
            stuff.unsaid().stream()
                    .min((a, b) -> ounces.get(a).equals(ounces.get(b)) ? a - b : ounces.get(b) - ounces.get(a))
                    .ifPresent(one::add);
            return one;
        }
    }

    private static final class Lover extends Plain {
        Lover(int number, Stuff stuff) {
            super(number, stuff);
        }

        @Override public int size() {
            stuff.trace.add(12);
            return -super.size();
        }

        @Override public int mark() {
            stuff.trace.add(24);
            return super.mark() * 2;
        }

        @Override public int weight(int plain) {
            return plain + plain;
        }

        @Override public TreeSet<Integer> blurts(List<Integer> ounces, int day) {
            TreeSet<Integer> one = new TreeSet<>();
            stuff.unsaid().stream()
                    .min((a, b) -> ounces.get(a).equals(ounces.get(b)) ? a - b : ounces.get(a) - ounces.get(b))
                    .ifPresent(one::add);
            return one;
        }
    }

    private static final class Boy extends Plain {
        Boy(int number, Stuff stuff) {
            super(number, stuff);
        }

        @Override public int mark() {
            stuff.trace.add(22);
            return super.mark() - 1000;
        }

        @Override public int weight(int plain) {
            return stuff.said.isEmpty() ? plain + 1 : plain;
        }

        @Override public TreeSet<Integer> blurts(List<Integer> ounces, int day) {
            return day % 2 != 0 ? new TreeSet<>() : super.blurts(ounces, day);
        }
    }

    private static class Card implements Letter {
        final int number;
        final Stuff stuff;

        Card(int number, Stuff stuff) {
            this.number = number;
            this.stuff = stuff;
        }

        @Override public int number() {
            return number;
        }

        @Override public Stuff stuff() {
            return stuff;
        }

        @Override public int size() {
            stuff.trace.add(13);
            return Letter.super.size() - 100;
        }

        @Override public int mark() {
            stuff.trace.add(23);
            int mark = Letter.super.mark();
            return mark - size();
        }

        @Override public int weight(int plain) {
            return plain / 2;
        }

        @Override public TreeSet<Integer> blurts(List<Integer> ounces, int day) {
            return new TreeSet<>();
        }
    }

    private static final class Lawyer extends Card {
        Lawyer(int number, Stuff stuff) {
            super(number, stuff);
        }

        @Override public int size() {
            stuff.trace.add(14);
            return super.size() * 2;
        }

        @Override public int weight(int plain) {
            int weight = super.weight(plain) - 5;
            return weight < 0 ? 0 : weight;
        }

        @Override public TreeSet<Integer> blurts(List<Integer> ounces, int day) {
            return stuff.unsaid();
        }
    }

    private static Letter make(int kind, int number, Stuff stuff) {
        switch (kind) {
            case 1: return new Plain(number, stuff);
            case 2: return new Lover(number, stuff);
            case 3: return new Boy(number, stuff);
            case 4: return new Card(number, stuff);
            default: return new Lawyer(number, stuff);
        }
    }

    private static int kindOf(Letter letter) {
        if (letter instanceof Lover) {
            return 2;
        }
        if (letter instanceof Boy) {
            return 3;
        }
        if (letter instanceof Lawyer) {
            return 5;
        }
        return letter instanceof Plain ? 1 : 4;
    }

    private static int bits(Iterable<Integer> set) {
        int bits = 0;
        for (int i : set) {
            bits += 1 << i;
        }
        return bits;
    }

    private static TreeSet<Integer> set(int bits) {
        TreeSet<Integer> set = new TreeSet<>();
        for (int i = 0; i < 31; i++) {
            if ((bits & 1 << i) != 0) {
                set.add(i);
            }
        }
        return set;
    }

    // ---- a post

    private static final class Post {
        final List<Integer> ounces = new ArrayList<>();
        final List<Letter> letters = new ArrayList<>();
        int strap, limit, day, paid;

        Post twin() {
            Post twin = new Post();
            twin.ounces.addAll(ounces);
            for (Letter letter : letters) {
                twin.put(letter.number(), kindOf(letter), letter.stuff());
            }
            twin.strap = strap;
            twin.limit = limit;
            twin.day = day;
            twin.paid = paid;
            return twin;
        }

        void put(int number, int kind, Stuff of) {
            Stuff stuff = new Stuff();
            stuff.would.addAll(of.would);
            stuff.said.addAll(of.said);
            stuff.waits = of.waits;
            Letter letter = make(kind, number, stuff);
            if (number < letters.size()) {
                letters.set(number, letter);
            } else {
                letters.add(letter);
            }
        }

        Stuff stuff(int letter) {
            return letters.get(letter).stuff();
        }

        int sum(Iterable<Integer> words) {
            int sum = 0;
            for (int word : words) {
                sum += ounces.get(word);
            }
            return sum;
        }

        int weight(int letter) {
            return letters.get(letter).weight(sum(stuff(letter).unsaid()));
        }

        TreeSet<Integer> blurts(int letter) {
            return weight(letter) > limit ? letters.get(letter).blurts(ounces, day) : new TreeSet<>();
        }

        Post pass(int days) {
            for (int d = 0; d < days; d++) {
                for (int i = 0; i < letters.size(); i++) {
                    if (stuff(i).waits) {
                        stuff(i).said.addAll(blurts(i));
                    }
                }
                int left = strap;
                for (int i = 0; i < letters.size(); i++) {
                    if (stuff(i).waits && weight(i) <= left) {
                        stuff(i).waits = false;
                        left -= weight(i);
                        paid = Math.min(99999, paid + weight(i));
                    }
                }
                day++;
            }
            return this;
        }

        int sent() {
            int sent = 0;
            for (Letter letter : letters) {
                sent += letter.stuff().waits ? 0 : 1 << letter.number();
            }
            return sent;
        }
    }

    // ---- the calls

    private final Object[] rows = new Object[8];
    private List<Integer> tape = new ArrayList<>();
    private Post post;
    private final Post[] images = new Post[2];
    private final Deque<Post> acts = new ArrayDeque<>();
    private List<Integer> trace = new ArrayList<>();
    private int fault, status;

    private static boolean within(int v, int least, int most) {
        return least <= v && v <= most;
    }

    private boolean isLetter(int letter) {
        return post != null && within(letter, 0, post.letters.size() - 1);
    }

    private boolean isWord(int word) {
        return post != null && within(word, 0, post.ounces.size() - 1);
    }

    private void act() {
        acts.push(post.twin());
        if (acts.size() > 24) {
            acts.removeLast();
        }
    }

    private int finding(RuntimeException e) {
        status = e instanceof NullPointerException ? 1 : e instanceof IndexOutOfBoundsException ? 2
                : e instanceof ClassCastException ? 3 : e instanceof NegativeArraySizeException ? 4
                : e instanceof ArrayStoreException ? 5 : 999;
        return -1000010 - status;
    }

    public int row(int row, int lane, int n) {
        if (!within(row, 0, 7) || !within(lane, 0, 2) || n > 40) {
            return BAD;
        }
        try {
            rows[row] = lane == 0 ? new byte[n] : lane == 1 ? (Object) new short[n] : new int[n];
        } catch (NegativeArraySizeException e) {
            return finding(e);
        }
        status = 0;
        return n;
    }

    public int set(int row, int i, int v) {
        if (!within(row, 0, 7)) {
            return BAD;
        }
        try {
            Object items = rows[row];
            int is;
            if (items instanceof byte[]) {
                ((byte[]) items)[i] = (byte) v;
                is = ((byte[]) items)[i];
            } else if (items instanceof short[]) {
                ((short[]) items)[i] = (short) v;
                is = ((short[]) items)[i];
            } else {
                ((int[]) items)[i] = v;
                is = ((int[]) items)[i];
            }
            status = 0;
            return is;
        } catch (NullPointerException | IndexOutOfBoundsException e) {
            return finding(e);
        }
    }

    @SuppressWarnings("SuspiciousSystemArraycopy")
    public int copy(int a, int i, int b, int j, int n) {
        if (!within(a, 0, 7) || !within(b, 0, 7)) {
            return BAD;
        }
        try {
            System.arraycopy(rows[a], i, rows[b], j, n);
        } catch (NullPointerException | IndexOutOfBoundsException | ArrayStoreException e) {
            return finding(e);
        }
        status = 0;
        return n;
    }

    public int drop(int row) {
        if (!within(row, 0, 7)) {
            return BAD;
        }
        try {
            int length = java.lang.reflect.Array.getLength(rows[row]);
            rows[row] = null;
            status = 0;
            return length;
        } catch (NullPointerException e) {
            return finding(e);
        }
    }

    public int feed(int letter) {
        if (!within(letter, 0, 255)) {
            return BAD;
        }
        if (tape.size() == 100) {
            return FULL;
        }
        tape.add(letter);
        return tape.size();
    }

    private record Token(char type, int value, int place) { }

    private static List<Token> tokens(List<Integer> tape) {
        List<Token> tokens = new ArrayList<>();
        int at = 0;
        while (at < tape.size()) {
            int c = tape.get(at);
            int end = at;
            int value = 0;
            while (end < tape.size() && within(tape.get(end), '0', '9')) {
                value = value > 999 ? value : 10 * value + tape.get(end) - '0';
                end++;
            }
            if (end > at) {
                tokens.add(new Token(end - at > 2 ? '?' : '9', value, at));
                at = end;
            } else {
                tokens.add(new Token(within(c, 'a', 'z') || c == ',' || c == ';' ? (char) c : '?', 0, at));
                at++;
            }
        }
        tokens.add(new Token('$', 0, tape.size()));
        return tokens;
    }

    /** States: the text ahead of each token, told by a letter; the sections by what they ended with. */
    public int post() {
        Post next = new Post();
        int would = 0;
        String due = "p";
        String part = "law";
        Stuff stuff = null;
        char sort = ' ';
        int number = 0;
        List<Token> tokens = tokens(tape);
        tape = new ArrayList<>();
        for (Token t : tokens) {
            if (due.indexOf(t.type) < 0) {
                return faulty(1, t);
            }
            int all = (1 << next.ounces.size()) - 1;
            switch (t.type) {
                case 'p':
                    due = "9";
                    number = 0;
                    break;
                case 'o':
                    if (next.ounces.size() == 6) {
                        return faulty(3, t);
                    }
                    part = "word";
                    due = "9";
                    break;
                case ',':
                    number = 1;
                    due = "9";
                    break;
                case ';':
                    due = part.equals("law") ? "o" : part.equals("word") ? "olvbcw" : "lvbcw$";
                    break;
                case '$':
                    post = next;
                    acts.clear();
                    return post.letters.size();
                case '9':
                    boolean isGood;
                    if (part.equals("law")) {
                        isGood = within(t.value, 0, number == 0 ? 99 : 60);
                        next.strap = number == 0 ? t.value : next.strap;
                        next.limit = t.value;
                        due = number == 0 ? "," : ";";
                    } else if (part.equals("word")) {
                        isGood = within(t.value, 1, 9);
                        next.ounces.add(t.value);
                        due = ";";
                    } else if (number == 0) {
                        isGood = (t.value | all) == all;
                        would = t.value;
                        stuff.would = set(would);
                        due = ",";
                    } else {
                        isGood = (t.value | would) == would;
                        stuff.said = set(t.value);
                        next.letters.add(make("?lvbcw".indexOf(sort), next.letters.size(), stuff));
                        due = ";";
                    }
                    if (!isGood) {
                        return faulty(2, t);
                    }
                    break;
                default:
                    if (next.letters.size() == 7) {
                        return faulty(3, t);
                    }
                    part = "letter";
                    sort = t.type;
                    stuff = new Stuff();
                    number = 0;
                    due = "9";
            }
        }
        throw new IllegalStateException();
    }

    private int faulty(int number, Token token) {
        fault = number;
        return -1000100 - token.place;
    }

    public int fault() {
        return fault;
    }

    public int days(int n) {
        if (post == null) {
            return STATE;
        }
        if (!within(n, 1, 24)) {
            return BAD;
        }
        if (post.day + n > 9999) {
            return FULL;
        }
        for (int d = 0; d < n; d++) {
            act();
            post.pass(1);
        }
        return post.sent();
    }

    public int say(int letter, int word) {
        if (!isLetter(letter) || !isWord(word)) {
            return BAD;
        }
        if (!post.stuff(letter).unsaid().contains(word)) {
            return STATE;
        }
        act();
        post.stuff(letter).said.add(word);
        return post.weight(letter);
    }

    public int unsay(int letter, int word) {
        if (!isLetter(letter) || !isWord(word)) {
            return BAD;
        }
        if (!post.stuff(letter).said.contains(word)) {
            return STATE;
        }
        act();
        post.stuff(letter).said.remove(word);
        return post.weight(letter);
    }

    public int back(int letter) {
        if (!isLetter(letter)) {
            return BAD;
        }
        if (post.stuff(letter).waits) {
            return STATE;
        }
        act();
        post.stuff(letter).waits = true;
        return post.weight(letter);
    }

    public int strap(int v) {
        if (post == null) {
            return STATE;
        }
        if (!within(v, 0, 99)) {
            return BAD;
        }
        act();
        int was = post.strap;
        post.strap = v;
        return was;
    }

    public int limit(int v) {
        if (post == null) {
            return STATE;
        }
        if (!within(v, 0, 60)) {
            return BAD;
        }
        act();
        int was = post.limit;
        post.limit = v;
        return was;
    }

    public int undo() {
        if (acts.isEmpty()) {
            return STATE;
        }
        post = acts.pop();
        return acts.size();
    }

    public int letter(int letter, int what) {
        if (!isLetter(letter) || !within(what, 0, 5)) {
            return BAD;
        }
        Stuff stuff = post.stuff(letter);
        int[] answers = {bits(stuff.would), bits(stuff.said), bits(stuff.unsaid()), post.weight(letter),
            stuff.waits ? 1 : 0, bits(post.blurts(letter))};
        return answers[what];
    }

    public int ounces(int word) {
        return isWord(word) ? post.ounces.get(word) : BAD;
    }

    public int ahead(int letter, int d, int what) {
        if (!isLetter(letter) || !within(d, 0, 60) || !within(what, 0, 1)) {
            return BAD;
        }
        Post then = post.twin().pass(d);
        return what == 0 ? then.weight(letter) : bits(then.stuff(letter).said);
    }

    public int later(int d, int what) {
        if (post == null) {
            return STATE;
        }
        if (!within(d, 0, 60) || !within(what, 0, 1)) {
            return BAD;
        }
        Post then = post.twin().pass(d);
        return what == 0 ? then.sent() : then.paid;
    }

    public int when(int letter) {
        if (!isLetter(letter)) {
            return BAD;
        }
        for (int d = 0; d <= 60; d++) {
            if (!post.twin().pass(d).stuff(letter).waits) {
                return d;
            }
        }
        return NONE;
    }

    public int lighten(int letter, int w, int what) {
        if (!isLetter(letter) || !within(w, 0, 99) || !within(what, 0, 1)) {
            return BAD;
        }
        for (int many = 0; many <= 6; many++) {
            for (int words = 0; words < 64; words++) {
                Post then = post.twin();
                if (Integer.bitCount(words) == many && then.stuff(letter).unsaid().containsAll(set(words))) {
                    then.stuff(letter).said.addAll(set(words));
                    if (then.weight(letter) <= w) {
                        return what == 0 ? many : words;
                    }
                }
            }
        }
        return NONE;
    }

    public int guess(int letter, int what) {
        if (!isLetter(letter) || !within(what, 0, 1)) {
            return BAD;
        }
        int many = 0;
        TreeSet<Integer> inAll = set(63);
        for (int words = 0; words < 1 << post.ounces.size(); words++) {
            TreeSet<Integer> both = set(words);
            both.retainAll(post.stuff(letter).said);
            boolean isAlike = post.letters.get(letter).weight(post.sum(set(words))) == post.weight(letter);
            if (both.isEmpty() && isAlike) {
                many++;
                inAll.retainAll(set(words));
            }
        }
        return what == 0 ? many : bits(inAll);
    }

    public int load(int w, int what) {
        if (post == null) {
            return STATE;
        }
        if (!within(w, 0, 99) || !within(what, 0, 1)) {
            return BAD;
        }
        int best = 0;
        int mostWeight = -1;
        int mostLetters = -1;
        for (int letters = 0; letters < 1 << post.letters.size(); letters++) {
            int weight = 0;
            boolean allWait = true;
            for (int letter : set(letters)) {
                weight += post.weight(letter);
                allWait = allWait && post.stuff(letter).waits;
            }
            int many = Integer.bitCount(letters);
            if (allWait && weight <= w
                    && (weight > mostWeight || weight == mostWeight && many > mostLetters)) {
                best = letters;
                mostWeight = weight;
                mostLetters = many;
            }
        }
        return what == 0 ? best : mostWeight;
    }

    public int share(int letter, int n) {
        if (!isLetter(letter) || !within(n, 0, 999)) {
            return BAD;
        }
        int all = 0;
        for (int i = 0; i < post.letters.size(); i++) {
            all += post.stuff(i).waits ? post.weight(i) : 0;
        }
        int[] shares = new int[post.letters.size()];
        int given = 0;
        for (int i = 0; i < shares.length && all > 0; i++) {
            shares[i] = post.stuff(i).waits ? n * post.weight(i) / all : 0;
            given += shares[i];
        }
        for (int i = 0; i < shares.length && all > 0; i++) {
            if (given < n && post.stuff(i).waits && post.weight(i) > 0) {
                shares[i]++;
                given++;
            }
        }
        return shares[letter];
    }

    private int item(int row, int i) {
        return java.lang.reflect.Array.getInt(rows[row], i);
    }

    public int fits(int letter, int row, int i, int n, int what) {
        if (!isLetter(letter) || !within(row, 0, 7) || !within(n, 1, 12) || !within(what, 0, 4)) {
            return BAD;
        }
        List<Integer> told = new ArrayList<>();
        try {
            for (int d = 0; d < n; d++) {
                told.add(item(row, i + d));
            }
        } catch (NullPointerException | IndexOutOfBoundsException e) {
            return finding(e);
        }
        status = 0;
        int sorts = 0;
        for (int kind = 1; kind <= 5; kind++) {
            Post then = post.twin();
            then.put(letter, kind, post.stuff(letter));
            sorts += tells(then, letter, told) ? 1 << kind : 0;
        }
        List<Integer> saids = new ArrayList<>();
        for (int words = 0; words < 64; words++) {
            if (post.stuff(letter).would.containsAll(set(words))) {
                Post then = post.twin();
                then.stuff(letter).said = set(words);
                if (tells(then, letter, told)) {
                    saids.add(words);
                }
            }
        }
        List<Integer> limits = new ArrayList<>();
        for (int limit = 0; limit <= 60; limit++) {
            Post then = post.twin();
            then.limit = limit;
            if (tells(then, letter, told)) {
                limits.add(limit);
            }
        }
        int[] answers = {sorts, saids.size(), saids.isEmpty() ? NONE : saids.get(0), limits.size(),
            limits.isEmpty() ? NONE : limits.get(0)};
        return answers[what];
    }

    private static boolean tells(Post then, int letter, List<Integer> told) {
        List<Integer> weights = new ArrayList<>();
        for (int d = 0; d < told.size(); d++) {
            weights.add(then.pass(1).weight(letter));
        }
        return weights.equals(told);
    }

    public int slips(int letter, int w, int n, int c, int what) {
        if (!isLetter(letter) || !within(w, 0, 99) || !within(n, 0, 30) || !within(c, 0, 10)
                || !within(what, 0, 1)) {
            return BAD;
        }
        long above = 0;
        long below = 1;
        List<Integer> unsaid = new ArrayList<>(post.stuff(letter).unsaid());
        for (int k = 0; k < unsaid.size(); k++) {
            below *= 10;
        }
        for (int pick = 0; pick < 1 << unsaid.size(); pick++) {
            long chance = 1;
            Post then = post.twin();
            for (int k = 0; k < unsaid.size(); k++) {
                boolean slips = (pick & 1 << k) != 0;
                chance *= slips ? c : 10 - c;
                if (slips) {
                    then.stuff(letter).said.add(unsaid.get(k));
                }
            }
            above += then.pass(n).weight(letter) <= w ? chance : 0;
        }
        for (long divisor = 5; divisor >= 2; divisor -= 3) {
            while (above != 0 && above % divisor == 0 && below % divisor == 0) {
                above /= divisor;
                below /= divisor;
            }
        }
        below = above == 0 ? 1 : below;
        return (int) (what == 0 ? above : below);
    }

    public int drawn(int n, int seed, int what) {
        if (post == null) {
            return STATE;
        }
        if (!within(n, 0, 60) || !within(seed, 1, 999999) || !within(what, 0, 1)) {
            return BAD;
        }
        Post then = post.twin();
        long x = seed;
        for (int d = 0; d < n; d++) {
            x = x * 16807L % 2147483647L;
            then.strap = (int) (x % 30);
            Stuff stuff = then.stuff((int) (x % then.letters.size()));
            if (x % 3 == 0) {
                stuff.waits = true;
            }
            if (x % 6 == 0) {
                stuff.said.clear();
            }
            then.pass(1);
        }
        return what == 0 ? then.paid - post.paid : Integer.bitCount(then.sent());
    }

    public int image(int k) {
        if (!within(k, 0, 1)) {
            return BAD;
        }
        if (post == null) {
            return STATE;
        }
        images[k] = post.twin();
        return 1;
    }

    public int restore(int k) {
        if (!within(k, 0, 1)) {
            return BAD;
        }
        if (images[k] == null) {
            return STATE;
        }
        post = images[k].twin();
        acts.clear();
        return 1;
    }

    public int kind(int letter) {
        return isLetter(letter) ? kindOf(post.letters.get(letter)) : BAD;
    }

    public int as(int letter, int kind) {
        if (!isLetter(letter) || !within(kind, 0, 5)) {
            return BAD;
        }
        Class<?>[] kinds = {Letter.class, Plain.class, Lover.class, Boy.class, Card.class, Lawyer.class};
        try {
            Letter as = (Letter) kinds[kind].cast(post.letters.get(letter));
            status = 0;
            return as.number();
        } catch (ClassCastException e) {
            return finding(e);
        }
    }

    public int ask(int letter, int what) {
        if (!isLetter(letter) || !within(what, 0, 1)) {
            return BAD;
        }
        Letter asked = post.letters.get(letter);
        asked.stuff().trace = new ArrayList<>();
        int answer = what == 0 ? asked.size() : asked.mark();
        trace = asked.stuff().trace;
        return answer;
    }

    public int trace(int i) {
        return within(i, 0, Math.min(trace.size(), 16) - 1) ? trace.get(i) : NONE;
    }

    public int count(int what) {
        if (!within(what, 0, 9)) {
            return BAD;
        }
        int present = 0;
        for (Object row : rows) {
            present += row == null ? 0 : 1;
        }
        Post p = post == null ? new Post() : post;
        int[] answers = {present, p.ounces.size(), p.letters.size(), p.day, p.strap, p.limit, p.paid, p.sent(),
            acts.size(), tape.size()};
        return answers[what];
    }

    public int status() {
        return status;
    }
}
