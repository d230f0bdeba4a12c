import java.io.IOException;
import java.nio.file.Files;
import java.nio.file.Path;
import java.util.ArrayList;
import java.util.List;
import java.util.Set;
import java.util.TreeSet;

/**
 * Boundary cases, each named by its promise, by the sentence of the document that it is for and by
 * the case; and states of the track in which calls are refused.
 */
final class Edges {
    static final int BAD = -1, STATE = -2, FULL = -3, NONE = -9, NO = -1000000;
    static final int LEAST = Integer.MIN_VALUE, MOST = Integer.MAX_VALUE;
    static final int PROMISES = 25;

    private static final Path DOCUMENT = Path.of("../shared/DOC.md");

    /** The ways in which all that an object holds can be brought to light: see bringToLight(). */
    private static final int WAYS = 10;

    interface State {
        CoinTrack make();
    }

    interface Call {
        int on(CoinTrack x);
    }

    interface CallWith {
        int on(CoinTrack x, int number);
    }

    private final Due due = new Due();
    private final Set<Integer> promises = new TreeSet<>();
    private final String terms;
    private final String[] sections = new String[PROMISES + 1];
    private String named = "";

    Edges() throws IOException {
        // Without the document the cases still stand; only the words can't be looked up.
        String document = Files.exists(DOCUMENT) ? plain(Files.readString(DOCUMENT)) : "";
        terms = between(document, "## Terms", "## Promise 1:");
        for (int promise = 1; promise <= PROMISES; promise++) {
            String next = promise < PROMISES ? "## Promise " + (promise + 1) + ":" : "## Not promised";
            sections[promise] = between(document, "## Promise " + promise + ":", next);
        }
    }

    private static String plain(String words) {
        return words.replaceAll("\\s+", " ");
    }

    private static String between(String document, String from, String to) {
        int start = document.indexOf(from);
        int end = document.indexOf(to);
        return start >= 0 && end > start ? document.substring(start, end) : "";
    }

    // ---- what is looked at

    /** The cases that follow are for these words, which stand under the promise or among the terms. */
    void sentence(int promise, String words) {
        named = "promise " + promise + ", \"" + words + "\"";
        promises.add(promise);
        boolean stands = terms.isEmpty() || sections[promise].contains(words) || terms.contains(words);
        due.is(named + ": these words stand in the document", stands ? 1 : 0, 1);
    }

    void is(String edge, int got, int want) {
        due.is(named + ": " + edge, got, want);
    }

    void row(String edge, int[] got, int... want) {
        is(edge + ", how many", got.length, want.length);
        for (int i = 0; i < got.length && i < want.length; i++) {
            is(edge + ", at " + i, got[i], want[i]);
        }
    }

    /** The call answers so, and all that the object holds is as it would be without the call. */
    void refused(String edge, State state, Call call, int answer) {
        leaves(edge, state, call, answer, state);
    }

    /** The call answers so, and then all is as in the other state. */
    void leaves(String edge, State state, Call call, int answer, State other) {
        for (int way = 0; way < WAYS; way++) {
            CoinTrack x = state.make();
            is(edge, call.on(x), answer);
            is(edge + ": all that is held, brought to light in way " + way + ", is as it should be",
                    bringToLight(x, way).equals(bringToLight(other.make(), way)) ? 1 : 0, 1);
        }
    }

    /** All that can be asked of the one is as of the other. */
    void alike(String edge, CoinTrack x, CoinTrack other) {
        is(edge, bringToLight(x, 0).equals(bringToLight(other, 0)) ? 1 : 0, 1);
    }

    void refusedInEach(String edge, Call call, int answer) {
        refused(edge + " (new)", CoinTrack::new, call, answer);
        refused(edge + " (laden)", Edges::laden, call, answer);
        refused(edge + " (jammed)", Edges::jammed, call, answer);
        refused(edge + " (full)", Edges::full, call, answer);
    }

    /** Each number that lies beyond least and most is refused. */
    void beyond(String number, State state, int least, int most, CallWith call, int answer) {
        for (int n : numbersBeyond(least, most)) {
            refused(number + " " + n, state, x -> call.on(x, n), answer);
        }
    }

    void beyondInEach(String number, int least, int most, CallWith call, int answer) {
        for (int n : numbersBeyond(least, most)) {
            refusedInEach(number + " " + n, x -> call.on(x, n), answer);
        }
    }

    /** The nearest, the farthest, and those that would be within if bits of them were lost. */
    static List<Integer> numbersBeyond(int least, int most) {
        int[] tried = {least - 1, most + 1, least - 2, most + 2, LEAST, LEAST + least, MOST, -most - 1, least + 32,
            least + 64, least + 256, most + 256, least + 65536, least - 256, 1 << 30, 0x33333334, 0x55555556};
        List<Integer> beyond = new ArrayList<>();
        for (int n : tried) {
            if ((n < least || n > most) && !beyond.contains(n)) {
                beyond.add(n);
            }
        }
        return beyond;
    }

    void end() {
        for (int promise = 1; promise <= PROMISES; promise++) {
            due.is("promise " + promise + " has a boundary case", promises.contains(promise) ? 1 : 0, 1);
        }
        due.end();
    }

    // ---- states

    static CoinTrack typed(CoinTrack x, String text) {
        for (int i = 0; i < text.length(); i++) {
            x.type(text.charAt(i));
        }
        return x;
    }

    static CoinTrack told(String text) {
        CoinTrack x = typed(new CoinTrack(), text);
        if (x.tells() < 0) {
            throw new IllegalStateException("a test's own text has a fault: " + text);
        }
        return x;
    }

    static String times(String text, int n) {
        return text.repeat(n);
    }

    /**
     * Two kinds (of the second, coins fall into bins 1 and 2), three tests, room 2, a coin in bins 0
     * and 1, three deeds, seven letters, one coin seen, image 0 (as told).
     */
    static CoinTrack laden() {
        CoinTrack x = told("coin 20 30 0 3 10; coin 25 40 1 9 0; hole 20 2; scale 35 3; rim 1 4; room 2;");
        x.keep(0);
        x.drops(0, 1);
        x.drops(1, 9);
        x.sees(1, 4, 2);
        return typed(x, "room 7;");
    }

    /** As laden, with two coins in bin 0 and a jam there; five deeds. */
    static CoinTrack jammed() {
        CoinTrack x = laden();
        x.drops(0, 0);
        x.drops(0, 2);
        return x;
    }

    /** Six kinds, six tests, six deeds (and a seventh that is lost), six coins seen, 150 letters, both images. */
    static CoinTrack full() {
        CoinTrack x = told("coin9 9 0 8 1;coin19 99 1 9 99;coin29 50 2 0 0;hole9 1;scale41 9;rim1 2;rim2 3;scale9 4;room1;");
        x.keep(0);
        x.adds(39, 60, 0, 9);
        x.adds(49, 70, 0, 9);
        x.adds(59, 41, 0, 0);
        x.puts(5, 0, 49, 5);
        x.keep(1);
        x.drops(2, 0);
        x.drops(3, 0);
        for (int i = 0; i < 6; i++) {
            x.sees(3, i, 5);
        }
        return typed(x, times("room3;", 25));
    }

    // ---- all that an object holds

    /** Ways 0 to 6: as many calls are undone; 7: the text is told; 8, 9: an image comes back. Then all is asked. */
    private static List<Integer> bringToLight(CoinTrack x, int way) {
        List<Integer> answers = new ArrayList<>();
        for (int i = 0; i < way && way <= 6; i++) {
            answers.add(x.undo());
        }
        if (way == 7) {
            answers.add(x.tells());
        }
        if (way > 7) {
            answers.add(x.back(way - 8));
        }
        askAll(x, answers);
        return answers;
    }

    private static void askAll(CoinTrack x, List<Integer> answers) {
        ask(7, x::count, answers);
        for (int i = 0; i < 6; i++) {
            int number = i;
            ask(8, what -> x.kind(number, what), answers);
            ask(3, what -> x.test(number, what), answers);
        }
        for (int i = 0; i < 7; i++) {
            int bin = i;
            ask(2, what -> x.bin(bin, what), answers);
        }
        ask(5, x::track, answers);
        ask(8, place -> x.order(place - 1), answers);
        ask(2, x::suspects, answers);
        answers.add(x.look());
    }

    private interface Question {
        int of(int what);
    }

    private static void ask(int many, Question question, List<Integer> answers) {
        for (int what = 0; what < many; what++) {
            answers.add(question.of(what));
        }
    }
}
