/** What is refused, whichever promise it is of: nothing changes, and BAD goes ahead of STATE, STATE of FULL. */
final class RefusedEdges {
    private static final int BAD = Edges.BAD, STATE = Edges.STATE, FULL = Edges.FULL, NO = Edges.NO;
    private static final String WORDS = "Refused, and nothing changes, the first of these that is so: BAD (a number is not as told, "
            + "or there is no such thing), STATE (as told), FULL.";

    static void lookAt(Edges e) {
        allNumbersBad(e);
        noSuchThing(e);
        badAheadOfState(e);
        badAheadOfFull(e);
        manyRefused(e);
    }

    /** All numbers of a call at once are far beyond, or just below, what they may be. */
    private static void allNumbersBad(Edges e) {
        for (int n : new int[] {Edges.LEAST, -1000000, -10, -2, 1000, 1 << 30, Edges.MOST}) {
            bad(e, 2, n, x -> x.type(n));
            bad(e, 5, n, x -> x.drops(n, n));
            bad(e, 7, n, x -> x.empties(n));
            bad(e, 8, n, x -> x.puts(n, n, n, n));
            bad(e, 9, n, x -> x.takes(n));
            bad(e, 10, n, x -> x.sets(n, n));
            bad(e, 11, n, x -> x.adds(n, n, n, n));
            bad(e, 13, n, x -> x.kind(n, n));
            bad(e, 14, n, x -> x.test(n, n));
            bad(e, 15, n, x -> x.bin(n, n));
            bad(e, 16, n, x -> x.coin(n, n, n, n));
            bad(e, 17, n, x -> x.track(n));
            bad(e, 19, n, x -> x.sees(n, n, n));
            bad(e, 23, n, x -> x.keep(n));
            bad(e, 24, n, x -> x.back(n));
            bad(e, 25, n, x -> x.count(n));
            if (n < 0) {
                bad(e, 18, n, x -> x.order(n));
            }
            e.sentence(21, WORDS);
            e.refusedInEach("all numbers " + n, x -> x.suspects(n), NO);
        }
    }

    private static void bad(Edges e, int promise, int n, Edges.Call call) {
        e.sentence(promise, WORDS);
        e.refusedInEach("all numbers " + n, call, BAD);
    }

    private static void noSuchThing(Edges e) {
        String words = "or there is no such thing";
        e.sentence(5, words);
        e.refused("no KIND, a coin of the first", CoinTrack::new, x -> x.drops(0, 0), BAD);
        e.sentence(7, words);
        e.refused("no TESTS, the second BIN", CoinTrack::new, x -> x.empties(1), BAD);
        e.sentence(9, words);
        e.refused("no TESTS, the first", CoinTrack::new, x -> x.takes(0), BAD);
        e.sentence(10, words);
        e.refused("no TESTS, the BOUND of the first", CoinTrack::new, x -> x.sets(0, 1), BAD);
        e.sentence(13, words);
        e.refused("no KINDS, the first", CoinTrack::new, x -> x.kind(0, 0), BAD);
        e.sentence(14, words);
        e.refused("no TESTS, asked of the first", CoinTrack::new, x -> x.test(0, 0), BAD);
        e.sentence(15, words);
        e.refused("no TESTS, asked of the second BIN", CoinTrack::new, x -> x.bin(1, 0), BAD);
    }

    private static void badAheadOfState(Edges e) {
        e.sentence(5, WORDS);
        e.refused("no such KIND, and a JAM", Edges::jammed, x -> x.drops(2, 0), BAD);
        e.refused("WORN by too much, and a JAM", Edges::jammed, x -> x.drops(1, 10), BAD);
        e.refused("a JAM alone", Edges::jammed, x -> x.drops(1, 9), STATE);
        e.sentence(7, WORDS);
        e.refused("no such BIN, which has no coins", Edges::laden, x -> x.empties(4), BAD);
        e.refused("no coins alone", Edges::laden, x -> x.empties(3), STATE);
        e.sentence(24, WORDS);
        e.refused("no such IMAGE, and none was kept", CoinTrack::new, x -> x.back(2), BAD);
        e.refused("none was kept alone", CoinTrack::new, x -> x.back(1), STATE);
    }

    private static void badAheadOfFull(Edges e) {
        e.sentence(2, WORDS);
        e.refused("no letter, and no place for one", Edges::full, x -> x.type(256), BAD);
        e.refused("no place alone", Edges::full, x -> x.type(255), FULL);
        e.sentence(8, WORDS);
        e.refused("no such place, and six TESTS", Edges::full, x -> x.puts(7, 0, 1, 1), BAD);
        e.refused("six TESTS alone", Edges::full, x -> x.puts(6, 0, 1, 1), FULL);
        e.sentence(11, WORDS);
        e.refused("WEAR as WEIGHT, and six KINDS", Edges::full, x -> x.adds(1, 1, 0, 1), BAD);
        e.refused("six KINDS alone", Edges::full, x -> x.adds(1, 2, 0, 1), FULL);
        e.sentence(19, WORDS);
        e.refused("no such BIN, and six SEEN", Edges::full, x -> x.sees(5, 9, 7), BAD);
        e.refused("six SEEN alone", Edges::full, x -> x.sees(5, 9, 6), FULL);
    }

    private static void manyRefused(Edges e) {
        e.sentence(12, WORDS);
        e.refused("one behind the other, at a JAM", Edges::jammed, x -> {
            x.type(-1);
            x.drops(0, 0);
            x.empties(3);
            x.puts(4, 0, 1, 1);
            x.takes(3);
            x.sets(0, 20);
            x.adds(1, 1, 0, 1);
            x.sees(0, 0, 7);
            x.keep(2);
            x.back(1);
            return x.count(7);
        }, BAD);
        e.refused("one behind the other, where all is full", Edges::full, x -> {
            x.type('x');
            x.frees();
            x.empties(0);
            x.puts(0, 0, 1, 1);
            x.sets(5, 49);
            x.adds(1, 1, 0, 0);
            x.sees(0, 0, 0);
            x.back(2);
            return x.frees();
        }, STATE);
    }
}
