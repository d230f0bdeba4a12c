import java.util.ArrayList;
import java.util.List;

/**
 * The document once more, written as plainly as it can be, with no thought of speed: each question
 * is answered by trying all that there is. It has nothing in common with the class but the answers.
 */
final class PlainModel {
    private static final int BAD = -1, STATE = -2, FULL = -3, NONE = -9, NO = -1000000;

    record Kind(int diameter, int weight, int edge, int wear, int share) {
        Kind worn(int wearThen) {
            return new Kind(diameter, weight, edge, wearThen, share);
        }
    }

    record Test(int sort, int bound, int cost) {
        boolean catches(int d, int w, int e) {
            return sort == 0 ? d <= bound : sort == 1 ? w <= bound : e == bound;
        }
    }

    record Seen(int kind, int x, int bin) {
    }

    record All(List<Kind> kinds, List<Test> tests, int room, List<Integer> coins, int jam) {
    }

    private All all = fresh(List.of(), List.of(), 20);
    private final List<All> past = new ArrayList<>();
    private final All[] images = new All[2];
    private final List<Seen> seen = new ArrayList<>();
    private String text = "";

    private static All fresh(List<Kind> kinds, List<Test> tests, int room) {
        List<Integer> coins = new ArrayList<>();
        for (int i = 0; i <= tests.size(); i++) {
            coins.add(0);
        }
        return new All(List.copyOf(kinds), List.copyOf(tests), room, List.copyOf(coins), NONE);
    }

    private void become(All then) {
        past.add(all);
        if (past.size() > 6) {
            past.remove(0);
        }
        all = then;
    }

    private static boolean in(int n, int least, int most) {
        return least <= n && n <= most;
    }

    // ---- falling

    private static int fall(List<Test> tests, int d, int w, int e) {
        for (int t = 0; t < tests.size(); t++) {
            if (tests.get(t).catches(d, w, e)) {
                return t;
            }
        }
        return tests.size();
    }

    private static int fall(List<Test> tests, Kind k, int x) {
        return fall(tests, k.diameter, k.weight - x, k.edge);
    }

    private static int toll(List<Test> tests, int bin) {
        int sum = 0;
        for (int t = 0; t < tests.size(); t++) {
            sum += t <= bin ? tests.get(t).cost : 0;
        }
        return sum;
    }

    private static int binsOf(List<Test> tests, Kind k) {
        int bits = 0;
        for (int x = 0; x <= k.wear; x++) {
            bits |= 1 << fall(tests, k, x);
        }
        return bits;
    }

    private static int kindsOf(List<Kind> kinds, List<Test> tests, int bin) {
        int bits = 0;
        for (int k = 0; k < kinds.size(); k++) {
            for (int x = 0; x <= kinds.get(k).wear; x++) {
                if (fall(tests, kinds.get(k), x) == bin) {
                    bits |= 1 << k;
                }
            }
        }
        return bits;
    }

    private static boolean apart(List<Kind> kinds, List<Test> tests) {
        for (int bin = 0; bin <= tests.size(); bin++) {
            if (Integer.bitCount(kindsOf(kinds, tests, bin)) >= 2) {
                return false;
            }
        }
        return true;
    }

    private static int greatestToll(List<Test> tests, Kind k) {
        int most = 0;
        for (int x = 0; x <= k.wear; x++) {
            most = Math.max(most, toll(tests, fall(tests, k, x)));
        }
        return most;
    }

    private static int price(List<Kind> kinds, List<Test> tests) {
        int sum = 0;
        for (Kind k : kinds) {
            sum += k.share * greatestToll(tests, k);
        }
        return sum;
    }

    // ---- the text

    int type(int letter) {
        if (!in(letter, 0, 255)) {
            return BAD;
        }
        if (text.length() == 150) {
            return FULL;
        }
        text += (char) letter;
        return text.length();
    }

    int clear() {
        int had = text.length();
        text = "";
        return had;
    }

    /** The tokens, and the place of each; the last is the empty one at the text's end. */
    private void split(List<String> tokens, List<Integer> places) {
        int at = 0;
        while (at < text.length()) {
            String rest = text.substring(at);
            String token = rest.replaceFirst("(?s)^([a-z]+|[0-9]+|.).*$", "$1");
            if (!token.equals(" ")) {
                tokens.add(token);
                places.add(at);
            }
            at += token.length();
        }
        tokens.add("");
        places.add(text.length());
    }

    int tells() {
        List<String> tokens = new ArrayList<>();
        List<Integer> places = new ArrayList<>();
        split(tokens, places);
        List<Kind> kinds = new ArrayList<>();
        List<Test> tests = new ArrayList<>();
        int room = 20;
        int items = 0;
        int t = 0;
        while (!tokens.get(t).isEmpty()) {
            String word = tokens.get(t);
            List<String> sorts = List.of("hole", "scale", "rim");
            boolean fits = word.equals("coin") && kinds.size() < 6 || sorts.contains(word) && tests.size() < 6
                    || word.equals("room");
            if (!fits) {
                return -10 - places.get(t);
            }
            int[][] limits = word.equals("coin") ? new int[][] {{1, 99}, {1, 99}, {0, 2}, {0, 9}, {0, 99}}
                    : word.equals("room") ? new int[][] {{1, 99}}
                    : word.equals("rim") ? new int[][] {{0, 2}, {1, 9}} : new int[][] {{1, 99}, {1, 9}};
            int[] n = new int[limits.length];
            for (int i = 0; i < n.length; i++) {
                t++;
                if (!tokens.get(t).matches("0|[1-9][0-9]?")) {
                    return -10 - places.get(t);
                }
                n[i] = Integer.parseInt(tokens.get(t));
                if (!in(n[i], limits[i][0], limits[i][1]) || n.length == 5 && i == 3 && n[3] >= n[1]) {
                    return -10 - places.get(t);
                }
            }
            t++;
            if (!tokens.get(t).equals(";")) {
                return -10 - places.get(t);
            }
            if (n.length == 5) {
                kinds.add(new Kind(n[0], n[1], n[2], n[3], n[4]));
            } else if (n.length == 2) {
                tests.add(new Test(sorts.indexOf(word), n[0], n[1]));
            } else {
                room = n[0];
            }
            items++;
            t++;
        }
        become(fresh(kinds, tests, room));
        text = "";
        return items;
    }

    // ---- what is done

    private boolean isCoin(int kind, int x) {
        return in(kind, 0, all.kinds.size() - 1) && in(x, 0, all.kinds.get(kind).wear);
    }

    int drops(int kind, int x) {
        if (!isCoin(kind, x)) {
            return BAD;
        }
        if (all.jam != NONE) {
            return STATE;
        }
        int bin = fall(all.tests, all.kinds.get(kind), x);
        if (all.coins.get(bin) >= all.room) {
            become(new All(all.kinds, all.tests, all.room, all.coins, bin));
            return 100 + bin;
        }
        List<Integer> coins = new ArrayList<>(all.coins);
        coins.set(bin, coins.get(bin) + 1);
        become(new All(all.kinds, all.tests, all.room, List.copyOf(coins), NONE));
        return bin;
    }

    int frees() {
        int bin = all.jam;
        if (bin == NONE) {
            return STATE;
        }
        become(new All(all.kinds, all.tests, all.room, all.coins, NONE));
        return bin;
    }

    int empties(int bin) {
        if (!in(bin, 0, all.tests.size())) {
            return BAD;
        }
        int had = all.coins.get(bin);
        if (had == 0) {
            return STATE;
        }
        List<Integer> coins = new ArrayList<>(all.coins);
        coins.set(bin, 0);
        become(new All(all.kinds, all.tests, all.room, List.copyOf(coins), all.jam));
        return had;
    }

    private static boolean isBound(int sort, int bound) {
        return sort == 2 ? in(bound, 0, 2) : in(bound, 1, 99);
    }

    int puts(int place, int sort, int bound, int cost) {
        if (!in(place, 0, all.tests.size()) || !in(sort, 0, 2) || !isBound(sort, bound) || !in(cost, 1, 9)) {
            return BAD;
        }
        if (all.tests.size() == 6) {
            return FULL;
        }
        List<Test> tests = new ArrayList<>(all.tests);
        tests.add(place, new Test(sort, bound, cost));
        become(fresh(all.kinds, tests, all.room));
        return tests.size();
    }

    int takes(int test) {
        if (!in(test, 0, all.tests.size() - 1)) {
            return BAD;
        }
        List<Test> tests = new ArrayList<>(all.tests);
        tests.remove(test);
        become(fresh(all.kinds, tests, all.room));
        return tests.size();
    }

    int sets(int test, int bound) {
        if (!in(test, 0, all.tests.size() - 1) || !isBound(all.tests.get(test).sort, bound)) {
            return BAD;
        }
        Test old = all.tests.get(test);
        if (old.bound == bound) {
            return STATE;
        }
        List<Test> tests = new ArrayList<>(all.tests);
        tests.set(test, new Test(old.sort, bound, old.cost));
        become(fresh(all.kinds, tests, all.room));
        return old.bound;
    }

    int adds(int diameter, int weight, int edge, int wear) {
        if (!in(diameter, 1, 99) || !in(weight, 1, 99) || !in(edge, 0, 2) || !in(wear, 0, 9) || wear >= weight) {
            return BAD;
        }
        if (all.kinds.size() == 6) {
            return FULL;
        }
        List<Kind> kinds = new ArrayList<>(all.kinds);
        kinds.add(new Kind(diameter, weight, edge, wear, 1));
        become(new All(List.copyOf(kinds), all.tests, all.room, all.coins, all.jam));
        return kinds.size() - 1;
    }

    int undo() {
        if (past.isEmpty()) {
            return STATE;
        }
        all = past.remove(past.size() - 1);
        return past.size();
    }

    // ---- asked

    int kind(int kind, int what) {
        if (!in(kind, 0, all.kinds.size() - 1) || !in(what, 0, 7)) {
            return BAD;
        }
        Kind k = all.kinds.get(kind);
        int[] plain = {k.diameter, k.weight, k.edge, k.wear, k.share};
        return what < 5 ? plain[what] : what == 5 ? binsOf(all.tests, k)
                : what == 6 ? greatestToll(all.tests, k) : bears(kind);
    }

    private int bears(int kind) {
        List<Kind> kinds = new ArrayList<>(all.kinds);
        Kind k = kinds.get(kind);
        for (int wear = Math.min(98, k.weight - 1); wear >= 0; wear--) {
            kinds.set(kind, k.worn(wear));
            if (apart(kinds, all.tests)) {
                return wear;
            }
        }
        return NONE;
    }

    int test(int test, int what) {
        if (!in(test, 0, all.tests.size() - 1) || !in(what, 0, 2)) {
            return BAD;
        }
        Test t = all.tests.get(test);
        return what == 0 ? t.sort : what == 1 ? t.bound : t.cost;
    }

    int bin(int bin, int what) {
        if (!in(bin, 0, all.tests.size()) || !in(what, 0, 1)) {
            return BAD;
        }
        return what == 0 ? kindsOf(all.kinds, all.tests, bin) : all.coins.get(bin);
    }

    int coin(int d, int w, int e, int what) {
        if (!in(d, 1, 99) || !in(w, 1, 99) || !in(e, 0, 2) || !in(what, 0, 2)) {
            return BAD;
        }
        int bin = fall(all.tests, d, w, e);
        return what == 0 ? bin : what == 1 ? kindsOf(all.kinds, all.tests, bin) : toll(all.tests, bin);
    }

    int track(int what) {
        switch (what) {
            case 0: return apart(all.kinds, all.tests) ? 1 : 0;
            case 1: return doubtful();
            case 2: return price(all.kinds, all.tests);
            case 3: return all.jam;
            case 4: return fewest();
            default: return BAD;
        }
    }

    private int doubtful() {
        int bits = 0;
        for (int k = 0; k < all.kinds.size(); k++) {
            if (Integer.bitCount(binsOf(all.tests, all.kinds.get(k))) >= 2) {
                bits |= 1 << k;
            }
        }
        return bits;
    }

    private int fewest() {
        for (int size = 0; size <= all.tests.size(); size++) {
            for (int set = 0; set < 1 << all.tests.size(); set++) {
                List<Test> some = new ArrayList<>();
                for (int t = 0; t < all.tests.size(); t++) {
                    if ((set & 1 << t) != 0) {
                        some.add(all.tests.get(t));
                    }
                }
                if (some.size() == size && apart(all.kinds, some)) {
                    return set;
                }
            }
        }
        return NONE;
    }

    int order(int k) {
        if (k < -1) {
            return BAD;
        }
        int n = all.tests.size();
        List<List<Integer>> orders = new ArrayList<>();
        permute(new ArrayList<>(), n, orders);
        int best = NONE;
        List<Integer> first = List.of();
        for (List<Integer> order : orders) {
            List<Test> tests = new ArrayList<>();
            for (int t : order) {
                tests.add(all.tests.get(t));
            }
            if (apart(all.kinds, tests) && (best == NONE || price(all.kinds, tests) < best)) {
                best = price(all.kinds, tests);
                first = order;
            }
        }
        return k == -1 ? best : k < first.size() ? first.get(k) : NONE;
    }

    /** All orders of 0 .. n - 1, the first one (place by place) first. */
    private static void permute(List<Integer> begun, int n, List<List<Integer>> orders) {
        if (begun.size() == n) {
            orders.add(List.copyOf(begun));
        }
        for (int t = 0; t < n; t++) {
            if (!begun.contains(t)) {
                begun.add(t);
                permute(begun, n, orders);
                begun.remove(begun.size() - 1);
            }
        }
    }

    // ---- a test that is off

    int sees(int kind, int x, int bin) {
        if (!in(kind, 0, 5) || !in(x, 0, 9) || !in(bin, 0, 6)) {
            return BAD;
        }
        if (seen.size() == 6) {
            return FULL;
        }
        seen.add(new Seen(kind, x, bin));
        return seen.size();
    }

    int forget() {
        int had = seen.size();
        seen.clear();
        return had;
    }

    private List<Test> testsBy(int suspect) {
        List<Test> tests = new ArrayList<>(all.tests);
        if (suspect >= 0) {
            Test t = tests.get(suspect / 2);
            tests.set(suspect / 2, new Test(t.sort, t.bound + (suspect % 2 == 1 ? 1 : -1), t.cost));
        }
        return tests;
    }

    private List<Integer> suspectsNow() {
        List<Integer> found = new ArrayList<>();
        for (int suspect = -1; suspect < 2 * all.tests.size(); suspect++) {
            boolean so = suspect < 0 || all.tests.get(suspect / 2).sort != 2;
            for (Seen s : seen) {
                so = so && isCoin(s.kind, s.x) && fall(testsBy(suspect), all.kinds.get(s.kind), s.x) == s.bin;
            }
            if (so) {
                found.add(suspect);
            }
        }
        return found;
    }

    int suspects(int what) {
        List<Integer> found = suspectsNow();
        return what == 0 ? found.size() : what == 1 ? (found.isEmpty() ? NONE : found.get(0)) : NO;
    }

    int look() {
        List<Integer> found = suspectsNow();
        if (found.size() <= 1) {
            return NONE;
        }
        int best = NONE;
        int least = 1000;
        for (int coin = 0; coin < 60; coin++) {
            if (isCoin(coin / 10, coin % 10)) {
                int[] bins = new int[7];
                int most = 0;
                for (int suspect : found) {
                    int bin = fall(testsBy(suspect), all.kinds.get(coin / 10), coin % 10);
                    most = Math.max(most, ++bins[bin]);
                }
                if (most < least) {
                    least = most;
                    best = coin;
                }
            }
        }
        return best;
    }

    // ---- images

    int keep(int image) {
        if (!in(image, 0, 1)) {
            return BAD;
        }
        images[image] = all;
        return all.tests.size();
    }

    int back(int image) {
        if (!in(image, 0, 1)) {
            return BAD;
        }
        if (images[image] == null) {
            return STATE;
        }
        all = images[image];
        past.clear();
        return all.tests.size();
    }

    int count(int what) {
        int coins = 0;
        for (int n : all.coins) {
            coins += n;
        }
        int[] counts = {all.kinds.size(), all.tests.size(), all.room, coins, seen.size(), text.length(), past.size()};
        return in(what, 0, 6) ? counts[what] : BAD;
    }
}
