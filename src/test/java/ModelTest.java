import java.util.Random;

/** Long runs of calls, drawn from fixed seeds, on the class and on the plain model: the answers are the same. */
public final class ModelTest {
    private static final int RUNS = 600;
    /** No more calls of one object are promised, so what else must be known is asked of the model. */
    private static final int CALLS = 512;
    /** A text is cleared, typed and told. */
    private static final int MOST_CALLS_OF_AN_ACT = 160;
    private static final int PLANS = 1500;

    private static final Due due = new Due();

    private final Random random;
    private final CoinTrack track = new CoinTrack();
    private final PlainModel model = new PlainModel();
    private final String name;
    /** How near to one another bounds and coins are drawn: near ones make doubtful kinds and suspects. */
    private final int width;
    private int calls = 0;

    private ModelTest(int seed) {
        random = new Random(seed);
        name = "run " + seed;
        width = 1 + random.nextInt(seed % 3 == 0 ? 99 : 12);
    }

    public static void main(String[] args) {
        for (int seed = 0; seed < RUNS && due.wrong() == 0; seed++) {
            new ModelTest(seed).run();
        }
        for (int seed = 0; seed < PLANS && due.wrong() == 0; seed++) {
            new ModelTest(RUNS + seed).plan();
        }
        due.end();
    }

    private void run() {
        if (random.nextInt(4) != 0) {
            tell(goodText());
        }
        while (calls <= CALLS - MOST_CALLS_OF_AN_ACT && due.wrong() == 0) {
            act();
        }
        while (calls < CALLS && due.wrong() == 0) {
            question();
        }
    }

    /** Many kinds, far from one another, and many tests that tell them apart: then there often is an order. */
    private void plan() {
        int kinds = 2 + below(5);
        StringBuilder text = new StringBuilder();
        for (int k = 0; k < kinds; k++) {
            int wear = below(3) == 0 ? below(10) : 0;
            text.append("coin").append(10 + below(9) * 10).append(' ').append(10 + below(9) * 10).append(' ')
                    .append(below(3)).append(' ').append(wear).append(' ').append(below(100)).append(';');
        }
        tell(text.toString());
        int tests = Math.min(6, kinds - 1 + below(4));
        for (int t = 0; t < tests; t++) {
            int sort = below(3);
            int bound = sort == 2 ? below(3) : model.kind(below(kinds), sort) - (below(3) == 0 ? below(9) : 0);
            int cost = 1 + below(9);
            due("puts()", track.puts(t, sort, bound, cost), model.puts(t, sort, bound, cost));
        }
        askAll(kinds);
    }

    private void askAll(int kinds) {
        for (int what = 0; what <= 4; what++) {
            due("track(" + what + ")", track.track(what), model.track(what));
        }
        for (int k = 0; k < kinds; k++) {
            for (int what = 5; what <= 7; what++) {
                due("kind(" + k + ", " + what + ")", track.kind(k, what), model.kind(k, what));
            }
        }
        boolean none = model.order(-1) == CoinTrack.NONE;
        for (int k = -1; k <= (none ? 0 : 6); k++) {
            due("order(" + k + ")", track.order(k), model.order(k));
        }
        for (int i = 0; i < 4; i++) {
            due("look()", track.look(), model.look());
            see();
            due("suspects(0)", track.suspects(0), model.suspects(0));
            due("suspects(1)", track.suspects(1), model.suspects(1));
        }
    }

    private void due(String call, int got, int want) {
        calls++;
        due.is(name + ", call " + calls + ", " + call, got, want);
    }

    private int below(int n) {
        return random.nextInt(n);
    }

    /** Mostly a number from least to most, now and then one beside that, or one of the outermost. */
    private int near(int least, int most) {
        int way = below(40);
        if (way == 0) {
            return below(2) == 0 ? Integer.MIN_VALUE + below(3) : Integer.MAX_VALUE - below(3);
        }
        if (way < 4) {
            return below(2) == 0 ? least - 1 : most + 1;
        }
        return least + below(most - least + 1);
    }

    private int size() {
        int way = below(30);
        return way == 0 ? 1 : way == 1 ? 99 : Math.min(99, 20 + below(width));
    }

    private int bound(int sort) {
        return sort == 2 ? near(0, 2) : below(20) == 0 ? near(1, 99) : size();
    }

    private int wear() {
        return below(2) == 0 ? 0 : near(0, 9);
    }

    private void tell(String text) {
        for (int i = 0; i < text.length(); i++) {
            type(text.charAt(i));
        }
        due("tells() of '" + text + "'", track.tells(), model.tells());
    }

    private void type(int letter) {
        due("type(" + letter + ")", track.type(letter), model.type(letter));
    }

    private String goodText() {
        StringBuilder text = new StringBuilder();
        int items = below(13);
        for (int i = 0; i < items && text.length() < 130; i++) {
            switch (below(9)) {
                case 0: text.append("room ").append(1 + below(4)); break;
                case 1: text.append("hole ").append(size()).append(' ').append(1 + below(9)); break;
                case 2: text.append("scale ").append(size()).append(' ').append(1 + below(9)); break;
                case 3: text.append("rim ").append(below(3)).append(' ').append(1 + below(9)); break;
                default: text.append(coinItem()); break;
            }
            text.append(below(3) == 0 ? " ; " : ";");
        }
        return text.toString();
    }

    private String coinItem() {
        int weight = size();
        int wear = below(2) == 0 ? 0 : Math.min(below(10), weight - 1);
        return "coin" + size() + " " + weight + " " + below(3) + " " + wear + " " + below(below(2) == 0 ? 3 : 100);
    }

    /** A good text with a sign put in, taken out or made another one. */
    private String harmedText() {
        StringBuilder text = new StringBuilder(goodText());
        String signs = "  ;09123acehilmnoprs" + (char) 0 + (char) 255 + "\tC.-";
        for (int i = below(4); i > 0 && text.length() > 0; i--) {
            int at = below(text.length());
            switch (below(3)) {
                case 0: text.insert(at, signs.charAt(below(signs.length()))); break;
                case 1: text.deleteCharAt(at); break;
                default: text.setCharAt(at, signs.charAt(below(signs.length()))); break;
            }
        }
        return text.toString();
    }

    private void act() {
        int way = below(100);
        if (way < 3) {
            due("clear()", track.clear(), model.clear());
            if (below(2) == 0) {
                tell(below(3) == 0 ? goodText() : harmedText());
            }
        } else if (way < 40) {
            deed();
        } else if (way < 75) {
            question();
        } else if (way < 95) {
            suspicion();
        } else {
            image();
        }
    }

    private void deed() {
        int a = near(0, 5);
        int b;
        switch (below(14)) {
            case 0: due("frees()", track.frees(), model.frees()); break;
            case 1:
                a = near(0, 6);
                due("empties(" + a + ")", track.empties(a), model.empties(a));
                break;
            case 2:
            case 3:
                putATest();
                break;
            case 4: due("takes(" + a + ")", track.takes(a), model.takes(a)); break;
            case 5:
                b = bound(Math.max(0, model.test(a, 0)));
                due("sets(" + a + ", " + b + ")", track.sets(a, b), model.sets(a, b));
                break;
            case 6:
            case 7:
                addAKind();
                break;
            case 8:
                due("undo()", track.undo(), model.undo());
                break;
            default:
                b = wear();
                due("drops(" + a + ", " + b + ")", track.drops(a, b), model.drops(a, b));
                break;
        }
    }

    private void putATest() {
        int place = near(0, Math.max(0, model.count(1)));
        int sort = near(0, 2);
        int bound = bound(sort);
        int cost = near(1, 9);
        due("puts(" + place + ", " + sort + ", " + bound + ", " + cost + ")",
                track.puts(place, sort, bound, cost), model.puts(place, sort, bound, cost));
    }

    private void addAKind() {
        int diameter = below(20) == 0 ? near(1, 99) : size();
        int weight = below(20) == 0 ? near(1, 99) : size();
        int edge = near(0, 2);
        int wear = wear();
        due("adds(" + diameter + ", " + weight + ", " + edge + ", " + wear + ")",
                track.adds(diameter, weight, edge, wear), model.adds(diameter, weight, edge, wear));
    }

    private void question() {
        int a = near(0, 5);
        int b;
        switch (below(7)) {
            case 0:
                b = near(0, 7);
                due("kind(" + a + ", " + b + ")", track.kind(a, b), model.kind(a, b));
                break;
            case 1:
                b = near(0, 2);
                due("test(" + a + ", " + b + ")", track.test(a, b), model.test(a, b));
                break;
            case 2:
                a = near(0, 6);
                b = near(0, 1);
                due("bin(" + a + ", " + b + ")", track.bin(a, b), model.bin(a, b));
                break;
            case 3: askOfACoin(); break;
            case 4:
                a = near(0, 4);
                due("track(" + a + ")", track.track(a), model.track(a));
                break;
            case 5:
                // The model tries all orders, which takes long: it is asked for fewer of the great ones.
                a = near(-1, 6);
                if (model.count(1) < 6 || below(4) == 0) {
                    due("order(" + a + ")", track.order(a), model.order(a));
                }
                break;
            default:
                a = near(0, 6);
                due("count(" + a + ")", track.count(a), model.count(a));
                break;
        }
    }

    private void askOfACoin() {
        int d = below(20) == 0 ? near(1, 99) : size();
        int w = below(20) == 0 ? near(1, 99) : size();
        int e = near(0, 2);
        int what = near(0, 2);
        due("coin(" + d + ", " + w + ", " + e + ", " + what + ")", track.coin(d, w, e, what), model.coin(d, w, e, what));
    }

    private void suspicion() {
        int way = below(10);
        if (way < 4) {
            see();
        } else if (way == 4) {
            due("forget()", track.forget(), model.forget());
        } else if (way < 8) {
            int what = near(0, 1);
            due("suspects(" + what + ")", track.suspects(what), model.suspects(what));
        } else {
            due("look()", track.look(), model.look());
        }
    }

    /** Mostly what is so, for else there is soon no suspect. */
    private void see() {
        int kind = near(0, Math.max(0, model.count(0) - 1));
        int x = near(0, Math.max(0, model.kind(kind, 3)));
        int bin = near(0, 6);
        if (below(8) != 0 && model.kind(kind, 0) > 0 && x >= 0 && x < model.kind(kind, 1)) {
            int weight = model.kind(kind, 1) - x + (below(4) == 0 ? 1 : 0);
            bin = model.coin(model.kind(kind, 0), Math.min(99, weight), model.kind(kind, 2), 0);
        }
        due("sees(" + kind + ", " + x + ", " + bin + ")", track.sees(kind, x, bin), model.sees(kind, x, bin));
    }

    private void image() {
        int image = near(0, 1);
        if (below(2) == 0) {
            due("keep(" + image + ")", track.keep(image), model.keep(image));
        } else {
            due("back(" + image + ")", track.back(image), model.back(image));
        }
    }
}
