/** The reticent post, whose letters weigh by what they leave unsaid; shared/DOC.md has its promises. */
public final class LetterOunces {
    public static final int NONE = -1000000, BAD = -1000001, STATE = -1000002, FULL = -1000003;

    private static final int FOUND = -1000010, FAULTY = -1000100;
    private static final int NULL = 1, PLACE = 2, KIND = 3, SIZE = 4, STORE = 5;
    private static final int LETTER = 0, PLAIN = 1, LOVER = 2, BOY = 3, CARD = 4, LAWYER = 5;
    private static final int MOST_WORDS = 6, MOST_LETTERS = 7, WORD_SETS = 64, LETTER_SETS = 128;
    private static final int MOST_STRAP = 99, MOST_LIMIT = 60, LAST_DAY = 9999;
    private static final int MOST_AHEAD = 60, MOST_TOLD = 12, MOST_SLIP_DAYS = 30, MOST_AT_ONCE = 24;

    private final Rows rows;
    private final Tape tape;
    private final Post draft;
    private final Post post;
    private final Post[] images;
    private final Acts acts;
    private final Seer seer;
    private final Asks asks;
    private int latestFault;
    private int latestFinding;

    public LetterOunces() {
        Words none = new Words(new int[MOST_WORDS], 0);
        rows = new Rows();
        tape = new Tape();
        draft = new Post(none);
        post = new Post(none);
        images = new Post[] {new Post(none), new Post(none)};
        acts = new Acts();
        seer = new Seer(new Post(none));
        asks = new Asks();
    }

    // ---- rows

    public int row(int row, int lane, int n) {
        if (!Rows.isNamed(row) || !Rows.isLane(lane) || n > Rows.LONGEST) {
            return BAD;
        }
        if (n < 0) {
            return found(SIZE);
        }
        latestFinding = 0;
        rows.make(row, lane, n);
        return n;
    }

    public int set(int row, int i, int v) {
        if (!Rows.isNamed(row)) {
            return BAD;
        }
        if (rows.isMissing(row)) {
            return found(NULL);
        }
        if (!rows.covers(row, i, 1)) {
            return found(PLACE);
        }
        latestFinding = 0;
        return rows.put(row, i, v);
    }

    public int copy(int a, int i, int b, int j, int n) {
        if (!Rows.isNamed(a) || !Rows.isNamed(b)) {
            return BAD;
        }
        if (rows.isMissing(a) || rows.isMissing(b)) {
            return found(NULL);
        }
        if (!rows.shareLane(a, b)) {
            return found(STORE);
        }
        if (!rows.covers(a, i, n) || !rows.covers(b, j, n)) {
            return found(PLACE);
        }
        latestFinding = 0;
        rows.move(a, i, b, j, n);
        return n;
    }

    public int drop(int row) {
        if (!Rows.isNamed(row)) {
            return BAD;
        }
        if (rows.isMissing(row)) {
            return found(NULL);
        }
        latestFinding = 0;
        return rows.remove(row);
    }

    // ---- posts, acts

    public int feed(int letter) {
        if (isOutside(letter, 0, 255)) {
            return BAD;
        }
        return tape.isFull() ? FULL : tape.append(letter);
    }

    public int post() {
        if (!tape.readInto(draft)) {
            latestFault = tape.fault;
            return FAULTY - tape.faultPlace;
        }
        post.become(draft);
        acts.forget();
        return post.letters;
    }

    public int fault() {
        return latestFault;
    }

    public int days(int n) {
        if (hasNoPost()) {
            return STATE;
        }
        if (isOutside(n, 1, MOST_AT_ONCE)) {
            return BAD;
        }
        if (n > LAST_DAY - post.day) {
            return FULL;
        }
        for (int d = 0; d < n; d++) {
            acts.keep(post);
            post.passDay();
        }
        return post.sent;
    }

    public int say(int letter, int word) {
        if (hasNo(letter) || hasNoWord(word)) {
            return BAD;
        }
        if ((post.unsaid(letter) >> word & 1) == 0) {
            return STATE;
        }
        acts.keep(post);
        post.said[letter] |= 1 << word;
        return post.weight(letter);
    }

    public int unsay(int letter, int word) {
        if (hasNo(letter) || hasNoWord(word)) {
            return BAD;
        }
        if ((post.said[letter] >> word & 1) == 0) {
            return STATE;
        }
        acts.keep(post);
        post.said[letter] &= ~(1 << word);
        return post.weight(letter);
    }

    public int back(int letter) {
        if (hasNo(letter)) {
            return BAD;
        }
        if (post.waits(letter)) {
            return STATE;
        }
        acts.keep(post);
        post.takeReturned(letter);
        return post.weight(letter);
    }

    public int strap(int v) {
        if (hasNoPost()) {
            return STATE;
        }
        if (isOutside(v, 0, MOST_STRAP)) {
            return BAD;
        }
        acts.keep(post);
        int before = post.strap;
        post.strap = v;
        return before;
    }

    public int limit(int v) {
        if (hasNoPost()) {
            return STATE;
        }
        if (isOutside(v, 0, MOST_LIMIT)) {
            return BAD;
        }
        acts.keep(post);
        int before = post.limit;
        post.limit = v;
        return before;
    }

    public int undo() {
        if (acts.count == 0) {
            return STATE;
        }
        acts.takeBack(post);
        return acts.count;
    }

    public int letter(int letter, int what) {
        if (hasNo(letter)) {
            return BAD;
        }
        switch (what) {
            case 0: return post.would[letter];
            case 1: return post.said[letter];
            case 2: return post.unsaid(letter);
            case 3: return post.weight(letter);
            case 4: return post.waits(letter) ? 1 : 0;
            case 5: return post.blurt(letter);
            default: return BAD;
        }
    }

    public int ounces(int word) {
        return hasNoWord(word) ? BAD : post.words.sums[1 << word];
    }

    // ---- foretold

    public int ahead(int letter, int d, int what) {
        if (hasNo(letter) || isOutside(d, 0, MOST_AHEAD) || isOutside(what, 0, 1)) {
            return BAD;
        }
        Post then = seer.foretell(post, d);
        return what == 0 ? then.weight(letter) : then.said[letter];
    }

    public int later(int d, int what) {
        if (hasNoPost()) {
            return STATE;
        }
        if (isOutside(d, 0, MOST_AHEAD) || isOutside(what, 0, 1)) {
            return BAD;
        }
        Post then = seer.foretell(post, d);
        return what == 0 ? then.sent : then.paid;
    }

    public int when(int letter) {
        return hasNo(letter) ? BAD : seer.daysUntilSent(post, letter);
    }

    public int lighten(int letter, int w, int what) {
        if (hasNo(letter) || isOutside(w, 0, MOST_STRAP) || isOutside(what, 0, 1)) {
            return BAD;
        }
        int which = seer.fewestToSay(post, letter, w);
        return which == NONE || what == 1 ? which : Integer.bitCount(which);
    }

    public int guess(int letter, int what) {
        if (hasNo(letter) || isOutside(what, 0, 1)) {
            return BAD;
        }
        return seer.weighingAlike(post, letter, what);
    }

    public int load(int w, int what) {
        if (hasNoPost()) {
            return STATE;
        }
        if (isOutside(w, 0, MOST_STRAP) || isOutside(what, 0, 1)) {
            return BAD;
        }
        int which = seer.bestLoad(post, w);
        return what == 0 ? which : post.weightTogether(which);
    }

    public int share(int letter, int n) {
        return hasNo(letter) || isOutside(n, 0, 999) ? BAD : seer.shareOf(post, letter, n);
    }

    public int fits(int letter, int row, int i, int n, int what) {
        if (hasNo(letter) || !Rows.isNamed(row) || isOutside(n, 1, MOST_TOLD) || isOutside(what, 0, 4)) {
            return BAD;
        }
        if (rows.isMissing(row)) {
            return found(NULL);
        }
        if (!rows.covers(row, i, n)) {
            return found(PLACE);
        }
        latestFinding = 0;
        seer.hear(rows, row, i, n);
        switch (what) {
            case 0: return seer.fittingKinds(post, letter);
            case 1: return seer.fittingSaids(post, letter, false);
            case 2: return seer.fittingSaids(post, letter, true);
            case 3: return seer.fittingLimits(post, letter, false);
            default: return seer.fittingLimits(post, letter, true);
        }
    }

    public int slips(int letter, int w, int n, int c, int what) {
        if (hasNo(letter) || isOutside(w, 0, MOST_STRAP) || isOutside(n, 0, MOST_SLIP_DAYS)
                || isOutside(c, 0, 10) || isOutside(what, 0, 1)) {
            return BAD;
        }
        int above = seer.lightCases(post, letter, w, n, c);
        int below = power(10, Integer.bitCount(post.unsaid(letter)));
        int divisor = commonDivisor(below, above);
        return (what == 0 ? above : below) / (divisor == 0 ? 1 : divisor);
    }

    public int drawn(int n, int seed, int what) {
        if (hasNoPost()) {
            return STATE;
        }
        if (isOutside(n, 0, MOST_AHEAD) || isOutside(seed, 1, 999999) || isOutside(what, 0, 1)) {
            return BAD;
        }
        Post then = seer.draw(post, n, seed);
        return what == 0 ? then.paid - post.paid : Integer.bitCount(then.sent);
    }

    public int image(int k) {
        if (isOutside(k, 0, 1)) {
            return BAD;
        }
        if (hasNoPost()) {
            return STATE;
        }
        images[k].become(post);
        return 1;
    }

    public int restore(int k) {
        if (isOutside(k, 0, 1)) {
            return BAD;
        }
        if (images[k].letters == 0) {
            return STATE;
        }
        post.become(images[k]);
        acts.forget();
        return 1;
    }

    // ---- asked

    public int kind(int letter) {
        return hasNo(letter) ? BAD : post.kinds[letter];
    }

    public int as(int letter, int kind) {
        if (hasNo(letter) || isOutside(kind, LETTER, LAWYER)) {
            return BAD;
        }
        if (!Asks.isA(post.kinds[letter], kind)) {
            return found(KIND);
        }
        latestFinding = 0;
        return letter;
    }

    public int ask(int letter, int what) {
        if (hasNo(letter) || isOutside(what, 0, 1)) {
            return BAD;
        }
        return asks.answer(post, letter, what);
    }

    public int trace(int i) {
        return isOutside(i, 0, asks.traced - 1) ? NONE : asks.bodies[i];
    }

    public int count(int what) {
        switch (what) {
            case 0: return rows.present();
            case 1: return post.words.count;
            case 2: return post.letters;
            case 3: return post.day;
            case 4: return post.strap;
            case 5: return post.limit;
            case 6: return post.paid;
            case 7: return post.sent;
            case 8: return acts.count;
            case 9: return tape.length;
            default: return BAD;
        }
    }

    public int status() {
        return latestFinding;
    }

    private int found(int finding) {
        latestFinding = finding;
        return FOUND - finding;
    }

    private boolean hasNoPost() {
        return post.letters == 0;
    }

    private boolean hasNo(int letter) {
        return isOutside(letter, 0, post.letters - 1);
    }

    private boolean hasNoWord(int word) {
        return isOutside(word, 0, post.words.count - 1);
    }

    private static boolean isOutside(int v, int least, int most) {
        return v < least || v > most;
    }

    private static int power(int base, int times) {
        int product = 1;
        for (int k = 0; k < times; k++) {
            product *= base;
        }
        return product;
    }

    private static int commonDivisor(int a, int b) {
        int large = a;
        int small = b;
        // Numbers up to a million need some thirty turns.
        for (int turn = 0; turn < 100 && small != 0; turn++) {
            int rest = large % small;
            large = small;
            small = rest;
        }
        return large;
    }

    /** Rows lie side by side in one array, so that a call makes no object. */
    private static final class Rows {
        private static final int ROWS = 8, LONGEST = 40;
        private static final int BYTES = 0, SHORTS = 1, INTS = 2, MISSING = -1;

        private final int[] lanes = new int[ROWS];
        private final int[] sizes = new int[ROWS];
        private final int[] items = new int[ROWS * LONGEST];

        Rows() {
            for (int row = 0; row < ROWS; row++) {
                lanes[row] = MISSING;
            }
        }

        static boolean isNamed(int row) {
            return row >= 0 && row < ROWS;
        }

        static boolean isLane(int lane) {
            return lane >= BYTES && lane <= INTS;
        }

        boolean isMissing(int row) {
            return lanes[row] == MISSING;
        }

        boolean shareLane(int a, int b) {
            return lanes[a] == lanes[b];
        }

        /** The size less n, as the sum of i and n could wrap around. */
        boolean covers(int row, int i, int n) {
            return i >= 0 && n >= 0 && i <= sizes[row] - n;
        }

        void make(int row, int lane, int n) {
            lanes[row] = lane;
            sizes[row] = n;
            for (int i = 0; i < n; i++) {
                items[row * LONGEST + i] = 0;
            }
        }

        int put(int row, int i, int v) {
            int kept = lanes[row] == BYTES ? (byte) v : lanes[row] == SHORTS ? (short) v : v;
            items[row * LONGEST + i] = kept;
            return kept;
        }

        int item(int row, int i) {
            return items[row * LONGEST + i];
        }

        void move(int a, int i, int b, int j, int n) {
            System.arraycopy(items, a * LONGEST + i, items, b * LONGEST + j, n);
        }

        int remove(int row) {
            lanes[row] = MISSING;
            return sizes[row];
        }

        int present() {
            int present = 0;
            for (int row = 0; row < ROWS; row++) {
                if (!isMissing(row)) {
                    present++;
                }
            }
            return present;
        }
    }

    /** The tape and its reading. A first fault stands: behind it nothing is read and no other one counts. */
    private static final class Tape {
        private static final int ROOM = 100, END = -1;
        private static final int MISPLACED = 1, NOT_AS_TOLD = 2, TOO_MANY = 3;

        private final int[] bytes = new int[ROOM];
        private final int[] ounces = new int[MOST_WORDS];
        private int length;
        private int place;
        private int words;
        private int fault;
        private int faultPlace;

        boolean isFull() {
            return length >= ROOM;
        }

        int append(int b) {
            if (!isFull()) {
                bytes[length] = b;
                length++;
            }
            return length;
        }

        /** Whether the tape had no fault; the draft is a post only then. */
        boolean readInto(Post draft) {
            place = 0;
            words = 0;
            fault = 0;
            readLaw(draft);
            readWords();
            readLetters(draft);
            if (next() != END) {
                fail(MISPLACED, place);
            }
            length = 0;
            if (fault != 0) {
                return false;
            }
            draft.words = new Words(ounces, words);
            return true;
        }

        private void readLaw(Post draft) {
            skip('p');
            int strap = readNumber(0, MOST_STRAP);
            skip(',');
            int limit = readNumber(0, MOST_LIMIT);
            skip(';');
            draft.begin(strap, limit);
        }

        private void readWords() {
            for (int turn = 0; turn <= MOST_WORDS && fault == 0 && next() == 'o'; turn++) {
                if (words >= MOST_WORDS) {
                    fail(TOO_MANY, place);
                    return;
                }
                place++;
                ounces[words] = readNumber(1, 9);
                words++;
                skip(';');
            }
            if (words == 0) {
                fail(MISPLACED, place);
            }
        }

        private void readLetters(Post draft) {
            for (int turn = 0; turn <= MOST_LETTERS && fault == 0 && kindOf(next()) != LETTER; turn++) {
                if (draft.letters >= MOST_LETTERS) {
                    fail(TOO_MANY, place);
                    return;
                }
                int kind = kindOf(next());
                place++;
                int would = readSet((1 << words) - 1);
                skip(',');
                int said = readSet(would);
                skip(';');
                draft.add(kind, would, said);
            }
            if (draft.letters == 0) {
                fail(MISPLACED, place);
            }
        }

        private int readSet(int allowed) {
            int start = place;
            int set = readNumber(0, WORD_SETS - 1);
            if ((set & ~allowed) != 0) {
                fail(NOT_AS_TOLD, start);
            }
            return set;
        }

        private int readNumber(int least, int most) {
            if (fault != 0) {
                return 0;
            }
            int figures = 0;
            int value = 0;
            // Three figures are enough to know that the run is no number.
            while (figures < 3 && isFigure(place + figures)) {
                value = 10 * value + bytes[place + figures] - '0';
                figures++;
            }
            if (figures == 0 || figures == 3) {
                fail(MISPLACED, place);
                return 0;
            }
            if (value < least || value > most) {
                fail(NOT_AS_TOLD, place);
                return 0;
            }
            place += figures;
            return value;
        }

        private void skip(int due) {
            if (next() == due) {
                place++;
            } else {
                fail(MISPLACED, place);
            }
        }

        private boolean isFigure(int at) {
            return at < length && bytes[at] >= '0' && bytes[at] <= '9';
        }

        private int next() {
            return fault == 0 && place < length ? bytes[place] : END;
        }

        private void fail(int number, int at) {
            if (fault == 0) {
                fault = number;
                faultPlace = at;
            }
        }

        private static int kindOf(int sort) {
            switch (sort) {
                case 'l': return PLAIN;
                case 'v': return LOVER;
                case 'b': return BOY;
                case 'c': return CARD;
                case 'w': return LAWYER;
                default: return LETTER;
            }
        }
    }

    /** Never changed once made, so that posts, images and trials can have the same one. */
    private static final class Words {
        private final int count;
        private final int[] sums = new int[WORD_SETS];
        private final int[] heaviest = new int[WORD_SETS];
        private final int[] lightest = new int[WORD_SETS];

        /** Days are tried by the thousand, so what they need of each set of words is worked out once. */
        Words(int[] ounces, int count) {
            this.count = Math.min(count, Math.min(ounces.length, MOST_WORDS));
            for (int set = 1; set < 1 << this.count; set++) {
                int least = set & -set;
                int rest = set - least;
                int own = ounces[Integer.numberOfTrailingZeros(least)];
                sums[set] = sums[rest] + own;
                heaviest[set] = own >= sums[heaviest[rest]] ? least : heaviest[rest];
                lightest[set] = rest == 0 || own <= sums[lightest[rest]] ? least : lightest[rest];
            }
        }
    }

    /** A post and its days; one without letters is none. */
    private static final class Post {
        private static final int MOST_PAID = 99999;

        private final int[] kinds = new int[MOST_LETTERS];
        private final int[] would = new int[MOST_LETTERS];
        private final int[] said = new int[MOST_LETTERS];
        private Words words;
        private int letters;
        private int sent;
        private int strap;
        private int limit;
        private int day;
        private int paid;

        Post(Words words) {
            this.words = words;
        }

        void begin(int newStrap, int newLimit) {
            letters = 0;
            sent = 0;
            strap = newStrap;
            limit = newLimit;
            day = 0;
            paid = 0;
        }

        void add(int newKind, int newWould, int newSaid) {
            if (letters < MOST_LETTERS) {
                kinds[letters] = newKind;
                would[letters] = newWould;
                said[letters] = newSaid;
                letters++;
            }
        }

        void become(Post other) {
            words = other.words;
            letters = other.letters;
            sent = other.sent;
            strap = other.strap;
            limit = other.limit;
            day = other.day;
            paid = other.paid;
            System.arraycopy(other.kinds, 0, kinds, 0, MOST_LETTERS);
            System.arraycopy(other.would, 0, would, 0, MOST_LETTERS);
            System.arraycopy(other.said, 0, said, 0, MOST_LETTERS);
        }

        boolean waits(int letter) {
            return (sent >> letter & 1) == 0;
        }

        void takeReturned(int letter) {
            sent &= ~(1 << letter);
        }

        int unsaid(int letter) {
            return would[letter] & ~said[letter];
        }

        int weight(int letter) {
            return weigh(kinds[letter], words.sums[unsaid(letter)], said[letter] == 0);
        }

        static int weigh(int kind, int plain, boolean isSilent) {
            switch (kind) {
                case LOVER: return 2 * plain;
                case BOY: return isSilent ? plain + 1 : plain;
                case CARD: return plain / 2;
                case LAWYER: return Math.max(plain / 2 - 5, 0);
                default: return plain;
            }
        }

        int weightTogether(int set) {
            int together = 0;
            for (int letter = 0; letter < letters; letter++) {
                if ((set >> letter & 1) != 0) {
                    together += weight(letter);
                }
            }
            return together;
        }

        int blurt(int letter) {
            if (weight(letter) <= limit) {
                return 0;
            }
            int unsaid = unsaid(letter);
            switch (kinds[letter]) {
                case PLAIN: return words.heaviest[unsaid];
                case LOVER: return words.lightest[unsaid];
                case BOY: return day % 2 == 0 ? words.heaviest[unsaid] : 0;
                case LAWYER: return unsaid;
                default: return 0;
            }
        }

        /** Whether a word was blurted or a letter sent. */
        boolean passDay() {
            boolean hasChanged = false;
            int left = strap;
            for (int letter = 0; letter < letters; letter++) {
                if (waits(letter)) {
                    // No letter's blurting minds another's, so each can be taken at once.
                    int blurted = blurt(letter);
                    said[letter] |= blurted;
                    int weight = weight(letter);
                    boolean isTaken = weight <= left;
                    if (isTaken) {
                        left -= weight;
                        sent |= 1 << letter;
                        paid = Math.min(paid + weight, MOST_PAID);
                    }
                    hasChanged = hasChanged || isTaken || blurted != 0;
                }
            }
            day++;
            return hasChanged;
        }

        void passDays(int n) {
            int last = day + n;
            for (int d = 0; d < n; d++) {
                boolean isEven = day % 2 == 0;
                boolean hasChanged = passDay();
                // An even day on which all of them could have blurted, and nothing changed: nothing ever will.
                if (isEven && !hasChanged) {
                    day = last;
                    return;
                }
            }
        }
    }

    /** What acts change of a post, as it was ahead of each; the oldest place is used again. */
    private static final class Acts {
        private static final int MOST = 24, FIELDS = MOST_LETTERS + 5;

        private final int[] kept = new int[MOST * FIELDS];
        private int next;
        private int count;

        void forget() {
            count = 0;
        }

        void keep(Post post) {
            int at = next * FIELDS;
            System.arraycopy(post.said, 0, kept, at, MOST_LETTERS);
            kept[at + MOST_LETTERS] = post.sent;
            kept[at + MOST_LETTERS + 1] = post.strap;
            kept[at + MOST_LETTERS + 2] = post.limit;
            kept[at + MOST_LETTERS + 3] = post.day;
            kept[at + MOST_LETTERS + 4] = post.paid;
            next = (next + 1) % MOST;
            count = Math.min(count + 1, MOST);
        }

        void takeBack(Post post) {
            if (count == 0) {
                return;
            }
            count--;
            next = (next + MOST - 1) % MOST;
            int at = next * FIELDS;
            System.arraycopy(kept, at, post.said, 0, MOST_LETTERS);
            post.sent = kept[at + MOST_LETTERS];
            post.strap = kept[at + MOST_LETTERS + 1];
            post.limit = kept[at + MOST_LETTERS + 2];
            post.day = kept[at + MOST_LETTERS + 3];
            post.paid = kept[at + MOST_LETTERS + 4];
        }
    }

    /** Foretells on a trial of its own, so that the post stays as it is. */
    private static final class Seer {
        private static final int FACTOR = 16807, MODULUS = 2147483647, STRAPS_DRAWN = 30;

        private final Post trial;
        private final int[] told = new int[MOST_TOLD];
        private int toldDays;

        Seer(Post trial) {
            this.trial = trial;
        }

        Post foretell(Post now, int d) {
            trial.become(now);
            trial.passDays(d);
            return trial;
        }

        int daysUntilSent(Post now, int letter) {
            trial.become(now);
            for (int d = 0; d <= MOST_AHEAD; d++) {
                if (!trial.waits(letter)) {
                    return d;
                }
                trial.passDay();
            }
            return NONE;
        }

        int fewestToSay(Post now, int letter, int w) {
            int unsaid = now.unsaid(letter);
            int best = NONE;
            for (int set = 0; set < WORD_SETS; set++) {
                boolean isFewer = best == NONE || Integer.bitCount(set) < Integer.bitCount(best);
                if ((set & ~unsaid) == 0 && isFewer && weightHavingSaid(now, letter, set) <= w) {
                    best = set;
                }
            }
            return best;
        }

        private static int weightHavingSaid(Post now, int letter, int set) {
            int plain = now.words.sums[now.unsaid(letter) & ~set];
            return Post.weigh(now.kinds[letter], plain, (now.said[letter] | set) == 0);
        }

        /** The sets of all words of the post that it has not said, those that it would not say among them. */
        int weighingAlike(Post now, int letter, int what) {
            int said = now.said[letter];
            int open = (1 << now.words.count) - 1 & ~said;
            int weight = now.weight(letter);
            int sets = 0;
            int inAll = open;
            for (int set = 0; set < WORD_SETS; set++) {
                if ((set & ~open) == 0 && Post.weigh(now.kinds[letter], now.words.sums[set], said == 0) == weight) {
                    sets++;
                    inAll &= set;
                }
            }
            return what == 0 ? sets : inAll;
        }

        int bestLoad(Post now, int w) {
            int best = 0;
            int most = 0;
            for (int set = 1; set < LETTER_SETS && set < 1 << now.letters; set++) {
                int together = (set & now.sent) == 0 ? now.weightTogether(set) : w + 1;
                boolean isMore = together > most
                        || together == most && Integer.bitCount(set) > Integer.bitCount(best);
                if (together <= w && isMore) {
                    best = set;
                    most = together;
                }
            }
            return best;
        }

        int shareOf(Post now, int letter, int n) {
            int together = now.weightTogether(~now.sent);
            if (!now.waits(letter) || together == 0) {
                return 0;
            }
            int over = n;
            int heavyBefore = 0;
            for (int other = 0; other < now.letters; other++) {
                int weight = now.waits(other) ? now.weight(other) : 0;
                over -= n * weight / together;
                if (other < letter && weight > 0) {
                    heavyBefore++;
                }
            }
            int own = now.weight(letter);
            return n * own / together + (own > 0 && heavyBefore < over ? 1 : 0);
        }

        void hear(Rows rows, int row, int i, int n) {
            toldDays = Math.min(n, MOST_TOLD);
            for (int d = 0; d < toldDays; d++) {
                told[d] = rows.item(row, i + d);
            }
        }

        private boolean isAsTold(int letter) {
            for (int d = 0; d < toldDays; d++) {
                trial.passDay();
                if (trial.weight(letter) != told[d]) {
                    return false;
                }
            }
            return true;
        }

        int fittingKinds(Post now, int letter) {
            int fitting = 0;
            for (int kind = PLAIN; kind <= LAWYER; kind++) {
                trial.become(now);
                trial.kinds[letter] = kind;
                if (isAsTold(letter)) {
                    fitting |= 1 << kind;
                }
            }
            return fitting;
        }

        int fittingSaids(Post now, int letter, boolean isLeastAsked) {
            int fitting = 0;
            int least = NONE;
            for (int set = 0; set < WORD_SETS; set++) {
                if ((set & ~now.would[letter]) != 0) {
                    continue;
                }
                trial.become(now);
                trial.said[letter] = set;
                if (isAsTold(letter)) {
                    least = fitting == 0 ? set : least;
                    fitting++;
                }
            }
            return isLeastAsked ? least : fitting;
        }

        int fittingLimits(Post now, int letter, boolean isLeastAsked) {
            int fitting = 0;
            int least = NONE;
            for (int limit = 0; limit <= MOST_LIMIT; limit++) {
                trial.become(now);
                trial.limit = limit;
                if (isAsTold(letter)) {
                    least = fitting == 0 ? limit : least;
                    fitting++;
                }
            }
            return isLeastAsked ? least : fitting;
        }

        /** Of as many even cases as 10 to the power of the unsaid words, those in which it is light enough. */
        int lightCases(Post now, int letter, int w, int n, int c) {
            int unsaid = now.unsaid(letter);
            int cases = 0;
            for (int slip = 0; slip < WORD_SETS; slip++) {
                if ((slip & ~unsaid) != 0) {
                    continue;
                }
                trial.become(now);
                trial.said[letter] |= slip;
                trial.passDays(n);
                if (trial.weight(letter) <= w) {
                    int kept = Integer.bitCount(unsaid & ~slip);
                    cases += power(c, Integer.bitCount(slip)) * power(10 - c, kept);
                }
            }
            return cases;
        }

        Post draw(Post now, int n, int seed) {
            trial.become(now);
            long x = seed;
            for (int d = 0; d < n; d++) {
                x = x * FACTOR % MODULUS;
                trial.strap = (int) (x % STRAPS_DRAWN);
                if (x % 3 == 0 && trial.letters > 0) {
                    int letter = (int) (x % trial.letters);
                    trial.takeReturned(letter);
                    trial.said[letter] = x % 2 == 0 ? 0 : trial.said[letter];
                }
                trial.passDay();
            }
            return trial;
        }
    }

    /** The kinds, each by its number, with what they are too and which bodies begin for them. */
    private static final class Asks {
        private static final int MOST_TRACED = 16, DEEPEST = 16;
        private static final int[] IS_TOO = {-1, LETTER, PLAIN, PLAIN, LETTER, CARD};
        private static final int[] SIZE_BODIES = {10, 11, 12, 11, 13, 14};
        private static final int[] MARK_BODIES = {20, 21, 24, 22, 23, 23};

        private final int[] bodies = new int[MOST_TRACED];
        private int traced;

        static boolean isA(int own, int kind) {
            int at = own;
            for (int step = 0; step < IS_TOO.length && at >= 0 && at < IS_TOO.length; step++) {
                if (at == kind) {
                    return true;
                }
                at = IS_TOO[at];
            }
            return false;
        }

        int answer(Post post, int letter, int what) {
            traced = 0;
            int kind = post.kinds[letter];
            return give(what == 0 ? SIZE_BODIES[kind] : MARK_BODIES[kind], post, letter, 0);
        }

        private int give(int body, Post post, int letter, int depth) {
            if (depth > DEEPEST) {
                return 0;
            }
            leave(body);
            int kind = post.kinds[letter];
            int deeper = depth + 1;
            switch (body) {
                case 10: return Integer.bitCount(post.would[letter]);
                case 11: return give(10, post, letter, deeper) + give(MARK_BODIES[kind], post, letter, deeper);
                case 12: return 0 - give(11, post, letter, deeper);
                case 13: return give(10, post, letter, deeper) - 100;
                case 14: return 2 * give(13, post, letter, deeper);
                case 20: return letter;
                case 21: return give(20, post, letter, deeper) + Integer.bitCount(post.said[letter]);
                case 22: return give(21, post, letter, deeper) - 1000;
                case 23: return give(20, post, letter, deeper) - give(SIZE_BODIES[kind], post, letter, deeper);
                case 24: return 2 * give(21, post, letter, deeper);
                default: return 0;
            }
        }

        private void leave(int body) {
            if (traced < MOST_TRACED) {
                bodies[traced] = body;
                traced++;
            }
        }
    }
}
