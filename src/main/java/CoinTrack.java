/**
 * A track that sorts coins by holes, scales and rims in a row.
 *
 * The words in capitals of the document (KIND, TEST, BIN, TOLL, ..) are used here in small letters.
 * Every row is made once and used again: the constructor makes them, but for the images and what
 * can be undone, which are made when first needed.
 */
public final class CoinTrack {
    public static final int BAD = -1, STATE = -2, FULL = -3, NONE = -9;
    public static final int NO = -1000000;

    private static final int MOST_KINDS = 6;
    private static final int MOST_TESTS = 6;
    private static final int MOST_BINS = MOST_TESTS + 1;
    private static final int MOST_WEAR = 9;
    private static final int MOST_UNDONE = 6;
    private static final int MOST_SEEN = 6;
    private static final int MOST_LETTERS = 150;
    private static final int MOST_IMAGES = 2;
    private static final int FIRST_ROOM = 20;

    /** What drops() adds to the number of a bin that is jammed. */
    private static final int JAMMED = 100;

    /** What tells() takes the fault's place from. */
    private static final int NOT_TOLD = -10;

    private static final int DIAMETER = 0, WEIGHT = 1, EDGE = 2, WEAR = 3, SHARE = 4, KIND_WIDTH = 5;
    private static final int SORT = 0, BOUND = 1, COST = 2, TEST_WIDTH = 3;
    private static final int HOLE = 0, SCALE = 1, RIM = 2;

    /** The suspect that stands for "no test is off". */
    private static final int NOBODY = -1;

    /** The number of no kind. */
    private static final int NO_KIND = -1;

    private final Track now = new Track();
    private final History history = new History();
    private final Track[] images = new Track[MOST_IMAGES];
    private final Teller teller = new Teller();
    private final Planner planner = new Planner();
    private final Witness witness = new Witness();

    public CoinTrack() {
    }

    // ---- what is told

    public int type(int letter) {
        if (!within(letter, 0, 255)) {
            return BAD;
        }
        return teller.append(letter) ? teller.length : FULL;
    }

    public int clear() {
        int had = teller.length;
        teller.length = 0;
        return had;
    }

    public int tells() {
        int items = teller.readAll();
        if (items >= 0) {
            history.remember(now);
            now.copyFrom(teller.draft);
            teller.length = 0;
        }
        return items;
    }

    // ---- what is done

    public int drops(int kind, int x) {
        if (!now.hasCoin(kind, x)) {
            return BAD;
        }
        if (now.jam != NONE) {
            return STATE;
        }
        history.remember(now);
        int bin = now.binOfCoin(kind, x, NOBODY);
        return now.takeIn(bin) ? bin : JAMMED + bin;
    }

    public int frees() {
        if (now.jam == NONE) {
            return STATE;
        }
        history.remember(now);
        int bin = now.jam;
        now.jam = NONE;
        return bin;
    }

    public int empties(int bin) {
        if (!now.hasBin(bin)) {
            return BAD;
        }
        int had = now.coinsIn(bin);
        if (had == 0) {
            return STATE;
        }
        history.remember(now);
        now.emptyBin(bin);
        return had;
    }

    public int puts(int place, int sort, int bound, int cost) {
        if (!within(place, 0, now.testCount) || !within(sort, HOLE, RIM)
                || !boundFits(sort, bound) || !within(cost, 1, 9)) {
            return BAD;
        }
        if (now.testCount >= MOST_TESTS) {
            return FULL;
        }
        history.remember(now);
        now.insertTest(place, sort, bound, cost);
        now.emptyAll();
        return now.testCount;
    }

    public int takes(int test) {
        if (!now.hasTest(test)) {
            return BAD;
        }
        history.remember(now);
        now.removeTest(test);
        now.emptyAll();
        return now.testCount;
    }

    public int sets(int test, int bound) {
        if (!now.hasTest(test) || !boundFits(now.ofTest(test, SORT), bound)) {
            return BAD;
        }
        int old = now.ofTest(test, BOUND);
        if (old == bound) {
            return STATE;
        }
        history.remember(now);
        now.putOfTest(test, BOUND, bound);
        now.emptyAll();
        return old;
    }

    public int adds(int diameter, int weight, int edge, int wear) {
        if (!coinFits(diameter, weight, edge) || !wearFits(weight, wear)) {
            return BAD;
        }
        if (now.kindCount >= MOST_KINDS) {
            return FULL;
        }
        history.remember(now);
        now.appendKind(diameter, weight, edge, wear, 1);
        return now.kindCount - 1;
    }

    public int undo() {
        return history.recall(now) ? history.known : STATE;
    }

    // ---- asked

    public int kind(int kind, int what) {
        if (!now.hasKind(kind)) {
            return BAD;
        }
        switch (what) {
            case DIAMETER:
            case WEIGHT:
            case EDGE:
            case WEAR:
            case SHARE:
                return now.ofKind(kind, what);
            case 5:
                return now.binsOf(kind);
            case 6:
                return now.greatestToll(kind);
            case 7:
                return now.bears(kind);
            default:
                return BAD;
        }
    }

    public int test(int test, int what) {
        return now.hasTest(test) && within(what, SORT, COST) ? now.ofTest(test, what) : BAD;
    }

    public int bin(int bin, int what) {
        if (!now.hasBin(bin) || !within(what, 0, 1)) {
            return BAD;
        }
        return what == 0 ? now.kindsOf(bin) : now.coinsIn(bin);
    }

    public int coin(int d, int w, int e, int what) {
        if (!coinFits(d, w, e) || !within(what, 0, 2)) {
            return BAD;
        }
        int bin = now.binOf(d, w, e, NOBODY);
        if (what == 0) {
            return bin;
        }
        return what == 1 ? now.kindsOf(bin) : now.tollTo(bin);
    }

    public int track(int what) {
        switch (what) {
            case 0:
                return now.apart() ? 1 : 0;
            case 1:
                return now.doubtful();
            case 2:
                return now.price();
            case 3:
                return now.jam;
            case 4:
                return planner.fewest(now);
            default:
                return BAD;
        }
    }

    public int order(int k) {
        if (k < -1) {
            return BAD;
        }
        int price = planner.plan(now);
        return k == -1 || price == NONE ? price : planner.placed(now, k);
    }

    // ---- a test that is off

    public int sees(int kind, int x, int bin) {
        if (!within(kind, 0, MOST_KINDS - 1) || !within(x, 0, MOST_WEAR) || !within(bin, 0, MOST_BINS - 1)) {
            return BAD;
        }
        return witness.append(kind, x, bin) ? witness.seenCount : FULL;
    }

    public int forget() {
        int had = witness.seenCount;
        witness.seenCount = 0;
        return had;
    }

    public int suspects(int what) {
        if (!within(what, 0, 1)) {
            return NO;
        }
        witness.gather(now);
        return what == 0 ? witness.suspectCount : witness.firstSuspect();
    }

    public int look() {
        witness.gather(now);
        return witness.tellingCoin(now);
    }

    // ---- images

    public int keep(int image) {
        if (!hasImage(image)) {
            return BAD;
        }
        if (images[image] == null) {
            images[image] = new Track();
        }
        images[image].copyFrom(now);
        return now.testCount;
    }

    public int back(int image) {
        if (!hasImage(image)) {
            return BAD;
        }
        if (images[image] == null) {
            return STATE;
        }
        now.copyFrom(images[image]);
        history.known = 0;
        return now.testCount;
    }

    public int count(int what) {
        switch (what) {
            case 0:
                return now.kindCount;
            case 1:
                return now.testCount;
            case 2:
                return now.room;
            case 3:
                return now.coinsInAll();
            case 4:
                return witness.seenCount;
            case 5:
                return teller.length;
            case 6:
                return history.known;
            default:
                return BAD;
        }
    }

    // ---- what numbers may be

    private boolean hasImage(int image) {
        return image >= 0 && image < images.length;
    }

    private static boolean within(int number, int least, int most) {
        return number >= least && number <= most;
    }

    private static boolean boundFits(int sort, int bound) {
        return sort == RIM ? within(bound, 0, 2) : within(bound, 1, 99);
    }

    private static boolean coinFits(int diameter, int weight, int edge) {
        return within(diameter, 1, 99) && within(weight, 1, 99) && within(edge, 0, 2);
    }

    private static boolean wearFits(int weight, int wear) {
        return within(wear, 0, MOST_WEAR) && wear < weight;
    }

    private static boolean isOneAtMost(int bits) {
        return (bits & bits - 1) == 0;
    }

    /** All that parts 1 and 2 of the document tell, but for the text. */
    private static final class Track {
        final int[] kindRows = new int[MOST_KINDS * KIND_WIDTH];
        final int[] testRows = new int[MOST_TESTS * TEST_WIDTH];
        final int[] coins = new int[MOST_BINS];
        int kindCount = 0;
        int testCount = 0;
        int room = FIRST_ROOM;
        int jam = NONE;

        void reset() {
            kindCount = 0;
            testCount = 0;
            room = FIRST_ROOM;
            emptyAll();
        }

        void copyFrom(Track other) {
            System.arraycopy(other.kindRows, 0, kindRows, 0, kindRows.length);
            System.arraycopy(other.testRows, 0, testRows, 0, testRows.length);
            System.arraycopy(other.coins, 0, coins, 0, coins.length);
            kindCount = other.kindCount;
            testCount = other.testCount;
            room = other.room;
            jam = other.jam;
        }

        boolean hasKind(int kind) {
            return kind >= 0 && kind < kindCount;
        }

        boolean hasCoin(int kind, int x) {
            return hasKind(kind) && within(x, 0, ofKind(kind, WEAR));
        }

        boolean hasTest(int test) {
            return test >= 0 && test < testCount;
        }

        boolean hasBin(int bin) {
            return bin >= 0 && bin <= testCount;
        }

        int ofKind(int kind, int what) {
            int at = kind * KIND_WIDTH + what;
            return at >= 0 && at < kindRows.length ? kindRows[at] : 0;
        }

        void putOfKind(int kind, int what, int number) {
            int at = kind * KIND_WIDTH + what;
            if (at >= 0 && at < kindRows.length) {
                kindRows[at] = number;
            }
        }

        int ofTest(int test, int what) {
            int at = test * TEST_WIDTH + what;
            return at >= 0 && at < testRows.length ? testRows[at] : 0;
        }

        void putOfTest(int test, int what, int number) {
            int at = test * TEST_WIDTH + what;
            if (at >= 0 && at < testRows.length) {
                testRows[at] = number;
            }
        }

        void appendKind(int diameter, int weight, int edge, int wear, int share) {
            if (kindCount < MOST_KINDS) {
                putOfKind(kindCount, DIAMETER, diameter);
                putOfKind(kindCount, WEIGHT, weight);
                putOfKind(kindCount, EDGE, edge);
                putOfKind(kindCount, WEAR, wear);
                putOfKind(kindCount, SHARE, share);
                kindCount++;
            }
        }

        void insertTest(int place, int sort, int bound, int cost) {
            if (testCount < MOST_TESTS) {
                for (int to = testCount; to > place; to--) {
                    copyTest(to - 1, to);
                }
                putOfTest(place, SORT, sort);
                putOfTest(place, BOUND, bound);
                putOfTest(place, COST, cost);
                testCount++;
            }
        }

        void removeTest(int test) {
            if (hasTest(test)) {
                for (int to = test; to < testCount - 1; to++) {
                    copyTest(to + 1, to);
                }
                testCount--;
            }
        }

        void copyTest(int from, int to) {
            for (int what = 0; what < TEST_WIDTH; what++) {
                putOfTest(to, what, ofTest(from, what));
            }
        }

        int coinsIn(int bin) {
            return bin >= 0 && bin < coins.length ? coins[bin] : 0;
        }

        int coinsInAll() {
            int sum = 0;
            for (int bin = 0; bin < coins.length; bin++) {
                sum += coins[bin];
            }
            return sum;
        }

        void emptyBin(int bin) {
            if (bin >= 0 && bin < coins.length) {
                coins[bin] = 0;
            }
        }

        void emptyAll() {
            for (int bin = 0; bin < coins.length; bin++) {
                coins[bin] = 0;
            }
            jam = NONE;
        }

        /** Whether the bin had room for one coin more; if not, it is jammed. */
        boolean takeIn(int bin) {
            if (bin >= 0 && bin < coins.length && coins[bin] < room) {
                coins[bin]++;
                return true;
            }
            jam = bin;
            return false;
        }

        boolean letsFall(int test, int diameter, int weight, int edge, int shift) {
            int at = test * TEST_WIDTH;
            if (at < 0 || at + TEST_WIDTH > testRows.length) {
                return false;
            }
            int bound = testRows[at + BOUND] + shift;
            switch (testRows[at + SORT]) {
                case HOLE:
                    return diameter <= bound;
                case SCALE:
                    return weight <= bound;
                default:
                    return edge == bound;
            }
        }

        /** Where a coin falls, if what the suspect says of a test is so. */
        int binOf(int diameter, int weight, int edge, int suspect) {
            for (int test = 0; test < testCount; test++) {
                if (letsFall(test, diameter, weight, edge, shiftOf(test, suspect))) {
                    return test;
                }
            }
            return testCount;
        }

        static int shiftOf(int test, int suspect) {
            if (suspect < 0 || suspect / 2 != test) {
                return 0;
            }
            return (suspect & 1) == 0 ? -1 : 1;
        }

        int binOfCoin(int kind, int x, int suspect) {
            return binOf(ofKind(kind, DIAMETER), ofKind(kind, WEIGHT) - x, ofKind(kind, EDGE), suspect);
        }

        /** The tests (bits) at which a coin would fall if it came to them. */
        int stopsOf(int kind, int x) {
            int diameter = ofKind(kind, DIAMETER);
            int weight = ofKind(kind, WEIGHT) - x;
            int edge = ofKind(kind, EDGE);
            int stops = 0;
            for (int test = 0; test < testCount; test++) {
                if (letsFall(test, diameter, weight, edge, 0)) {
                    stops |= 1 << test;
                }
            }
            return stops;
        }

        int binsOf(int kind) {
            int wear = ofKind(kind, WEAR);
            int bins = 0;
            for (int x = 0; x <= wear; x++) {
                bins |= 1 << binOfCoin(kind, x, NOBODY);
            }
            return bins;
        }

        int kindsOf(int bin) {
            int kinds = 0;
            for (int kind = 0; kind < kindCount; kind++) {
                if ((binsOf(kind) >> bin & 1) != 0) {
                    kinds |= 1 << kind;
                }
            }
            return kinds;
        }

        boolean apart() {
            return binsOfAllBut(NO_KIND) != NONE;
        }

        /** The bins (bits) of all kinds but one; NONE, if two of these kinds share a bin. */
        int binsOfAllBut(int left) {
            int taken = 0;
            for (int kind = 0; kind < kindCount; kind++) {
                int bins = kind == left ? 0 : binsOf(kind);
                if ((taken & bins) != 0) {
                    return NONE;
                }
                taken |= bins;
            }
            return taken;
        }

        int bears(int kind) {
            int taken = binsOfAllBut(kind);
            if (taken == NONE) {
                return NONE;
            }
            int weight = ofKind(kind, WEIGHT);
            int most = NONE;
            // A greater wear has all coins of a lesser one, so the first coin in another kind's bin ends it.
            for (int x = 0; x < weight && (taken >> binOfCoin(kind, x, NOBODY) & 1) == 0; x++) {
                most = x;
            }
            return most;
        }

        int doubtful() {
            int kinds = 0;
            for (int kind = 0; kind < kindCount; kind++) {
                int bins = binsOf(kind);
                if (!isOneAtMost(bins)) {
                    kinds |= 1 << kind;
                }
            }
            return kinds;
        }

        int tollTo(int bin) {
            int toll = 0;
            for (int test = 0; test < testCount && test <= bin; test++) {
                toll += ofTest(test, COST);
            }
            return toll;
        }

        int greatestToll(int kind) {
            int bins = binsOf(kind);
            int toll = 0;
            for (int bin = 0; bin <= testCount; bin++) {
                if ((bins >> bin & 1) != 0) {
                    toll = Math.max(toll, tollTo(bin));
                }
            }
            return toll;
        }

        int price() {
            int sum = 0;
            for (int kind = 0; kind < kindCount; kind++) {
                sum += ofKind(kind, SHARE) * greatestToll(kind);
            }
            return sum;
        }
    }

    /** What stood ahead of the latest deeds: a ring, so that the oldest is lost by being written over. */
    private static final class History {
        final Track[] ring = new Track[MOST_UNDONE];
        int next = 0;
        int known = 0;

        void remember(Track track) {
            int place = isPlace(next) ? next : 0;
            if (ring[place] == null) {
                ring[place] = new Track();
            }
            ring[place].copyFrom(track);
            next = isPlace(place + 1) ? place + 1 : 0;
            known = Math.min(known + 1, ring.length);
        }

        boolean recall(Track track) {
            int latest = isPlace(next - 1) ? next - 1 : ring.length - 1;
            if (known <= 0 || !isPlace(latest) || ring[latest] == null) {
                return false;
            }
            track.copyFrom(ring[latest]);
            next = latest;
            known--;
            return true;
        }

        boolean isPlace(int place) {
            return place >= 0 && place < ring.length;
        }
    }

    /** The text, and the track that it tells. */
    private static final class Teller {
        private static final int END = 0, WORD = 1, NUMBER = 2, STOP = 3, WRONG = 4;
        private static final int COIN = 3, ROOM = 4, UNKNOWN = 5;

        final int[] letters = new int[MOST_LETTERS];
        final int[] numbers = new int[KIND_WIDTH];
        final Track draft = new Track();
        int length = 0;

        int token = END;
        int start = 0;
        int end = 0;

        boolean append(int letter) {
            if (length >= letters.length) {
                return false;
            }
            letters[length] = letter;
            length++;
            return true;
        }

        int letterAt(int place) {
            return place >= 0 && place < length && place < letters.length ? letters[place] : NONE;
        }

        /** How many items were read into the draft; NOT_TOLD less the place of the fault. */
        int readAll() {
            draft.reset();
            end = 0;
            readToken();
            int items = 0;
            while (token != END && items <= MOST_LETTERS) {
                if (!readItem()) {
                    return NOT_TOLD - start;
                }
                items++;
                readToken();
            }
            return items;
        }

        /** Whether an item begins with the token that was read; if not, that which was read last is the fault. */
        boolean readItem() {
            int item = token == WORD ? itemOfWord() : UNKNOWN;
            if (item == UNKNOWN || !mayCome(item)) {
                return false;
            }
            int wanted = item == COIN ? KIND_WIDTH : item == ROOM ? 1 : 2;
            for (int field = 0; field < wanted && field < numbers.length; field++) {
                readToken();
                if (token != NUMBER || !fits(item, field, numberRead())) {
                    return false;
                }
                numbers[field] = numberRead();
            }
            readToken();
            if (token != STOP) {
                return false;
            }
            putItem(item);
            return true;
        }

        /** The sort of the test, COIN, ROOM or UNKNOWN. */
        int itemOfWord() {
            if (spells("coin")) {
                return COIN;
            }
            if (spells("hole")) {
                return HOLE;
            }
            if (spells("scale")) {
                return SCALE;
            }
            if (spells("rim")) {
                return RIM;
            }
            return spells("room") ? ROOM : UNKNOWN;
        }

        boolean spells(String word) {
            if (word.length() != end - start) {
                return false;
            }
            for (int i = 0; i < word.length(); i++) {
                if (letterAt(start + i) != word.charAt(i)) {
                    return false;
                }
            }
            return true;
        }

        boolean mayCome(int item) {
            if (item == COIN) {
                return draft.kindCount < MOST_KINDS;
            }
            return item == ROOM || draft.testCount < MOST_TESTS;
        }

        boolean fits(int item, int field, int number) {
            if (item == COIN) {
                return fitsCoin(field, number);
            }
            if (item == ROOM) {
                return within(number, 1, 99);
            }
            return field == 0 ? boundFits(item, number) : within(number, 1, 9);
        }

        boolean fitsCoin(int field, int number) {
            switch (field) {
                case DIAMETER:
                case WEIGHT:
                    return within(number, 1, 99);
                case EDGE:
                    return within(number, 0, 2);
                case WEAR:
                    return wearFits(numbers[WEIGHT], number);
                default:
                    return within(number, 0, 99);
            }
        }

        void putItem(int item) {
            if (item == COIN) {
                draft.appendKind(numbers[DIAMETER], numbers[WEIGHT], numbers[EDGE], numbers[WEAR], numbers[SHARE]);
            } else if (item == ROOM) {
                draft.room = numbers[0];
            } else {
                draft.insertTest(draft.testCount, item, numbers[0], numbers[1]);
            }
        }

        /** Goes on to the next token: from start up to end; behind the last one it is END, at the text's length. */
        void readToken() {
            start = end;
            while (start < length && letterAt(start) == ' ') {
                start++;
            }
            end = start;
            if (start >= length) {
                token = END;
            } else if (isSmallLetter(letterAt(start))) {
                while (end < length && isSmallLetter(letterAt(end))) {
                    end++;
                }
                token = WORD;
            } else if (isFigure(letterAt(start))) {
                while (end < length && isFigure(letterAt(end))) {
                    end++;
                }
                token = isPlainNumber() ? NUMBER : WRONG;
            } else {
                end++;
                token = letterAt(start) == ';' ? STOP : WRONG;
            }
        }

        boolean isPlainNumber() {
            int figures = end - start;
            return figures == 1 || figures == 2 && letterAt(start) != '0';
        }

        int numberRead() {
            int number = 0;
            for (int place = start; place < end; place++) {
                number = number * 10 + letterAt(place) - '0';
            }
            return number;
        }

        static boolean isSmallLetter(int letter) {
            return within(letter, 'a', 'z');
        }

        static boolean isFigure(int letter) {
            return within(letter, '0', '9');
        }
    }

    /** Finds the cheapest order of the tests, and the fewest tests. */
    private static final class Planner {
        private static final int SETS = 1 << MOST_TESTS;

        /** What tells a variety: its kind, and the tests (bits) at which it would fall if it came to them. */
        final int[] varietyKinds = new int[MOST_KINDS * (MOST_WEAR + 1)];
        final int[] varietyStops = new int[MOST_KINDS * (MOST_WEAR + 1)];
        int varieties = 0;

        /** For each set of tests that are passed: the least price of the others, the first of them. */
        final int[] restPrice = new int[SETS];
        final int[] nextTest = new int[SETS];

        /** Few of a kind's coins differ in where they fall, so only those that do are gone through. */
        void study(Track track) {
            varieties = 0;
            for (int kind = 0; kind < track.kindCount; kind++) {
                int wear = track.ofKind(kind, WEAR);
                int before = NONE;
                for (int x = 0; x <= wear; x++) {
                    int stops = track.stopsOf(kind, x);
                    if (stops != before) {
                        appendVariety(kind, stops);
                    }
                    before = stops;
                }
            }
        }

        void appendVariety(int kind, int stops) {
            if (varieties < varietyKinds.length && varieties < varietyStops.length) {
                varietyKinds[varieties] = kind;
                varietyStops[varieties] = stops;
                varieties++;
            }
        }

        int fewest(Track track) {
            study(track);
            int best = NONE;
            for (int set = 0; set < 1 << track.testCount; set++) {
                boolean fewer = best == NONE || Integer.bitCount(set) < Integer.bitCount(best);
                if (fewer && apartBy(track, set)) {
                    best = set;
                }
            }
            return best;
        }

        /** Whether the kinds are apart, when only a set's tests stand. */
        boolean apartBy(Track track, int set) {
            int passed = 0;
            for (int test = 0; test < track.testCount; test++) {
                int testBit = set & 1 << test;
                if (testBit != 0 && !isOneAtMost(kindsFalling(passed, testBit))) {
                    return false;
                }
                passed |= testBit;
            }
            return isOneAtMost(kindsRolling(passed));
        }

        /**
         * The least price of all orders by which the kinds are apart, or NONE.
         *
         * What a set of tests lets through does not hang on the order within the set, so the best
         * order of the rest is found once for each set; a kind's greatest toll has the cost of each
         * test to which some coin of it comes.
         */
        int plan(Track track) {
            study(track);
            int all = Math.min(1 << track.testCount, SETS) - 1;
            for (int passed = all; passed >= 0; passed--) {
                planBehind(track, passed, all);
            }
            return restPrice[0];
        }

        void planBehind(Track track, int passed, int all) {
            if (passed < 0 || passed >= SETS) {
                return;
            }
            int rolling = kindsRolling(passed);
            if (passed == all) {
                restPrice[passed] = isOneAtMost(rolling) ? 0 : NONE;
                return;
            }
            int share = shareOf(track, rolling);
            restPrice[passed] = NONE;
            for (int test = 0; test < track.testCount; test++) {
                int price = priceBy(track, passed, test, share);
                // Only a lower price counts, so of several the least test stays.
                if (price != NONE && (restPrice[passed] == NONE || price < restPrice[passed])) {
                    restPrice[passed] = price;
                    nextTest[passed] = test;
                }
            }
        }

        int priceBy(Track track, int passed, int test, int share) {
            int then = passed | 1 << test;
            if (then == passed || then < 0 || then >= SETS || restPrice[then] == NONE) {
                return NONE;
            }
            if (!isOneAtMost(kindsFalling(passed, 1 << test))) {
                return NONE;
            }
            return restPrice[then] + share * track.ofTest(test, COST);
        }

        /** The kinds (bits) of which some coin comes past all tests of a set. */
        int kindsRolling(int passed) {
            return kindsFalling(passed, 0);
        }

        /** The kinds (bits) of which some coin comes past all tests of a set, and falls at the next one. */
        int kindsFalling(int passed, int testBit) {
            int kinds = 0;
            for (int i = 0; i < varieties && i < varietyStops.length && i < varietyKinds.length; i++) {
                if ((varietyStops[i] & (passed | testBit)) == testBit) {
                    kinds |= 1 << varietyKinds[i];
                }
            }
            return kinds;
        }

        int shareOf(Track track, int kinds) {
            int share = 0;
            for (int kind = 0; kind < track.kindCount; kind++) {
                if ((kinds >> kind & 1) != 0) {
                    share += track.ofKind(kind, SHARE);
                }
            }
            return share;
        }

        /** The test at a place of the order that was planned; NONE behind the last one. */
        int placed(Track track, int place) {
            if (!track.hasTest(place)) {
                return NONE;
            }
            int passed = 0;
            for (int i = 0; i < place; i++) {
                passed |= 1 << testBehind(passed);
            }
            return testBehind(passed);
        }

        int testBehind(int passed) {
            return passed >= 0 && passed < nextTest.length ? nextTest[passed] : 0;
        }
    }

    /** What was seen, and which tests may be off by that. */
    private static final class Witness {
        private static final int KIND = 0, WORN = 1, BIN = 2, SEEN_WIDTH = 3;

        final int[] seenRows = new int[MOST_SEEN * SEEN_WIDTH];
        final int[] suspected = new int[1 + 2 * MOST_TESTS];
        final int[] tally = new int[MOST_BINS];
        int seenCount = 0;
        int suspectCount = 0;

        boolean append(int kind, int x, int bin) {
            int at = seenCount * SEEN_WIDTH;
            if (at < 0 || at + SEEN_WIDTH > seenRows.length) {
                return false;
            }
            seenRows[at + KIND] = kind;
            seenRows[at + WORN] = x;
            seenRows[at + BIN] = bin;
            seenCount++;
            return true;
        }

        void gather(Track track) {
            suspectCount = 0;
            accuse(track, NOBODY);
            for (int test = 0; test < track.testCount; test++) {
                if (track.ofTest(test, SORT) != RIM) {
                    accuse(track, 2 * test);
                    accuse(track, 2 * test + 1);
                }
            }
        }

        void accuse(Track track, int suspect) {
            if (explainsAll(track, suspect) && suspectCount < suspected.length) {
                suspected[suspectCount] = suspect;
                suspectCount++;
            }
        }

        boolean explainsAll(Track track, int suspect) {
            for (int at = 0; at < seenCount * SEEN_WIDTH && at + BIN < seenRows.length; at += SEEN_WIDTH) {
                int kind = seenRows[at + KIND];
                int x = seenRows[at + WORN];
                // A bin beyond the last one needs no look of its own: no coin falls there.
                if (!track.hasCoin(kind, x) || track.binOfCoin(kind, x, suspect) != seenRows[at + BIN]) {
                    return false;
                }
            }
            return true;
        }

        int firstSuspect() {
            return suspectCount > 0 ? suspected[0] : NONE;
        }

        /** The coin (10 times its kind, and x) that leaves the fewest suspects in the worst case, or NONE. */
        int tellingCoin(Track track) {
            if (suspectCount <= 1) {
                return NONE;
            }
            int best = NONE;
            int fewest = 0;
            for (int kind = 0; kind < track.kindCount; kind++) {
                int wear = track.ofKind(kind, WEAR);
                for (int x = 0; x <= wear; x++) {
                    int agreeing = mostAgreeing(track, kind, x);
                    if (best == NONE || agreeing < fewest) {
                        best = 10 * kind + x;
                        fewest = agreeing;
                    }
                }
            }
            return best;
        }

        /** The greatest number of suspects by which a coin falls into the same bin. */
        int mostAgreeing(Track track, int kind, int x) {
            for (int bin = 0; bin < tally.length; bin++) {
                tally[bin] = 0;
            }
            int most = 0;
            for (int i = 0; i < suspectCount && i < suspected.length; i++) {
                int bin = track.binOfCoin(kind, x, suspected[i]);
                if (bin >= 0 && bin < tally.length) {
                    tally[bin]++;
                    most = Math.max(most, tally[bin]);
                }
            }
            return most;
        }
    }
}
