/** Boundary cases of a TEST that is OFF (promises 19 to 22). */
final class OffEdges {
    private static final int BAD = Edges.BAD, FULL = Edges.FULL, NONE = Edges.NONE, NO = Edges.NO;

    static void lookAt(Edges e) {
        sees(e);
        seesBeyond(e);
        seesFull(e);
        forget(e);
        suspectsBeyond(e);
        minusOneIsTold(e);
        howManySuspects(e);
        offByOne(e);
        boundsThatCanNotBeTold(e);
        rimIsNeverOff(e);
        oneTestAtMost(e);
        firstSuspect(e);
        seenOfNoKind(e);
        seenWornTooMuch(e);
        seenInNoBin(e);
        asAllStands(e);
        lookNone(e);
        lookAtLeast(e);
        lookOfSeveral(e);
        lookChangesNothing(e);
    }

    // ---- promise 19

    private static void sees(Edges e) {
        e.sentence(19, "SEEN (a KIND 0 .. 5, x 0 .. 9, a BIN 0 .. 6): how much there is.");
        CoinTrack x = new CoinTrack();
        e.is("the least", x.sees(0, 0, 0), 1);
        e.is("the greatest", x.sees(5, 9, 6), 2);
        e.is("the same again", x.sees(5, 9, 6), 3);
        e.is("KIND 5", x.sees(5, 0, 0), 4);
        e.is("x 9", x.sees(0, 9, 0), 5);
        e.is("BIN 6", x.sees(0, 0, 6), 6);
        e.is("it is counted", x.count(4), 6);
    }

    private static void seesBeyond(Edges e) {
        e.sentence(19, "BAD; FULL: 6.");
        e.beyondInEach("KIND", 0, 5, (x, n) -> x.sees(n, 0, 0), BAD);
        e.beyondInEach("x", 0, 9, (x, n) -> x.sees(0, n, 0), BAD);
        e.beyondInEach("BIN", 0, 6, (x, n) -> x.sees(0, 0, n), BAD);
    }

    private static void seesFull(Edges e) {
        e.sentence(19, "BAD; FULL: 6.");
        e.refused("a seventh", Edges::full, x -> x.sees(0, 0, 0), FULL);
        e.refused("a seventh, the greatest", Edges::full, x -> x.sees(5, 9, 6), FULL);
        e.refused("BAD goes ahead, KIND", Edges::full, x -> x.sees(6, 0, 0), BAD);
        e.refused("BAD goes ahead, x", Edges::full, x -> x.sees(0, 10, 0), BAD);
        e.refused("BAD goes ahead, BIN", Edges::full, x -> x.sees(0, 0, 7), BAD);
        CoinTrack x = Edges.told("coin 9 9 0 0 1; rim 1 1; scale 9 1;");
        for (int i = 0; i < 5; i++) {
            x.sees(0, 0, 1);
        }
        e.is("the sixth", x.sees(0, 0, 2), 6);
        e.is("it counts", x.suspects(0), 0);
        x.forget();
        e.sentence(19, "SEEN (6 at most)");
        for (int i = 0; i < 6; i++) {
            x.sees(0, 0, 1);
        }
        e.is("a seventh that would count", x.sees(0, 0, 2), FULL);
        e.is("it does not", x.suspects(0), 2);
    }

    // ---- promise 20

    private static void forget(Edges e) {
        e.sentence(20, "Nothing is SEEN: how much was.");
        e.refused("nothing", CoinTrack::new, x -> x.forget(), 0);
        CoinTrack x = Edges.full();
        e.is("six", x.forget(), 6);
        e.is("nothing any more", x.count(4), 0);
        e.is("not twice", x.forget(), 0);
        e.is("room for more", x.sees(0, 0, 0), 1);
        e.is("it is the only one", x.forget(), 1);
        CoinTrack all = Edges.told("coin 9 9 0 0 1; hole 50 1;");
        all.sees(0, 0, 1);
        e.is("no SUSPECTS", all.suspects(0), 0);
        all.forget();
        e.is("all of them", all.suspects(0), 3);
        e.leaves("nothing else changes", () -> {
            CoinTrack y = Edges.jammed();
            y.forget();
            y.sees(5, 9, 6);
            y.sees(0, 0, 0);
            return y;
        }, y -> y.forget(), 2, () -> {
            CoinTrack y = Edges.jammed();
            y.forget();
            return y;
        });
    }

    // ---- promise 21

    private static void suspectsBeyond(Edges e) {
        e.sentence(21, "NONE). NO: BAD.");
        e.beyondInEach("what", 0, 1, (x, n) -> x.suspects(n), NO);
    }

    private static void minusOneIsTold(Edges e) {
        e.sentence(21, "What is BAD (NO) where -1 is told.");
        CoinTrack x = Edges.laden();
        e.is("-1 is an answer", x.suspects(1), -1);
        e.is("what below", x.suspects(-1), NO);
        e.is("what beyond", x.suspects(2), NO);
        e.is("NO", CoinTrack.NO, NO);
    }

    private static void howManySuspects(Edges e) {
        e.sentence(21, "SUSPECTS: how many (what = 0), the first (1: -1, or a number; NONE).");
        CoinTrack none = new CoinTrack();
        e.is("no TESTS: none is OFF", none.suspects(0), 1);
        e.is("no TESTS: told as -1", none.suspects(1), -1);
        for (int holes = 0; holes <= 6; holes++) {
            CoinTrack x = Edges.told("coin 9 9 0 0 1;" + Edges.times("hole1 1;", holes) + Edges.times("rim1 1;", 6 - holes));
            e.is(holes + " holes, nothing SEEN", x.suspects(0), 1 + 2 * holes);
            e.is(holes + " holes, the first", x.suspects(1), -1);
        }
        CoinTrack x = Edges.laden();
        x.sees(0, 0, 3);
        x.sees(0, 0, 0);
        e.is("so by none", x.suspects(0), 0);
        e.is("no first", x.suspects(1), NONE);
    }

    /** One test, one kind, seen in a bin: which are suspects. */
    private static void oneSeen(Edges e, String text, int bin, int many, int first) {
        CoinTrack x = Edges.told(text);
        x.sees(0, 0, bin);
        e.is("'" + text + "' SEEN in " + bin, x.suspects(0), many);
        e.is("'" + text + "' SEEN in " + bin + ", the first", x.suspects(1), first);
    }

    private static void offByOne(Edges e) {
        e.sentence(21, "OFF is one TEST at most, a hole or a scale, whose BOUND is truly 1 more, or 1 less, than told.");
        oneSeen(e, "coin 22 9 0 0 1; hole 20 1;", 0, 0, NONE);
        oneSeen(e, "coin 21 9 0 0 1; hole 20 1;", 0, 1, 1);
        oneSeen(e, "coin 20 9 0 0 1; hole 20 1;", 0, 2, -1);
        oneSeen(e, "coin 19 9 0 0 1; hole 20 1;", 0, 3, -1);
        oneSeen(e, "coin 22 9 0 0 1; hole 20 1;", 1, 3, -1);
        oneSeen(e, "coin 21 9 0 0 1; hole 20 1;", 1, 2, -1);
        oneSeen(e, "coin 20 9 0 0 1; hole 20 1;", 1, 1, 0);
        oneSeen(e, "coin 19 9 0 0 1; hole 20 1;", 1, 0, NONE);
        oneSeen(e, "coin 9 22 0 0 1; scale 20 1;", 0, 0, NONE);
        oneSeen(e, "coin 9 21 0 0 1; scale 20 1;", 0, 1, 1);
        oneSeen(e, "coin 9 20 0 0 1; scale 20 1;", 0, 2, -1);
        oneSeen(e, "coin 9 21 0 0 1; scale 20 1;", 1, 2, -1);
        oneSeen(e, "coin 9 20 0 0 1; scale 20 1;", 1, 1, 0);
        oneSeen(e, "coin 9 19 0 0 1; scale 20 1;", 1, 0, NONE);
        CoinTrack worn = Edges.told("coin 9 30 0 9 1; scale 20 1;");
        worn.sees(0, 9, 0);
        e.is("WORN by 9, 1 more", worn.suspects(1), 1);
        worn.forget();
        worn.sees(0, 8, 0);
        e.is("WORN by 8, 2 more", worn.suspects(1), NONE);
    }

    private static void boundsThatCanNotBeTold(Edges e) {
        e.sentence(21, "whose BOUND is truly 1 more, or 1 less, than told.");
        oneSeen(e, "coin 1 9 0 0 1; hole 1 1;", 1, 1, 0);
        oneSeen(e, "coin 9 1 0 0 1; scale 1 1;", 1, 1, 0);
        oneSeen(e, "coin 99 9 0 0 1; hole 99 1;", 0, 2, -1);
        oneSeen(e, "coin 9 99 0 0 1; scale 99 1;", 0, 2, -1);
        e.is("1 less than 1, 1 more than 99", Edges.told("hole 1 1; scale 1 1; hole 99 1; scale 99 1;").suspects(0), 9);
    }

    private static void rimIsNeverOff(Edges e) {
        e.sentence(21, "OFF is one TEST at most, a hole or a scale");
        oneSeen(e, "coin 9 9 1 0 1; rim 0 1;", 0, 0, NONE);
        oneSeen(e, "coin 9 9 1 0 1; rim 2 1;", 0, 0, NONE);
        oneSeen(e, "coin 9 9 1 0 1; rim 1 1;", 1, 0, NONE);
        oneSeen(e, "coin 9 9 1 0 1; rim 1 1;", 0, 1, -1);
        e.is("six rims", Edges.told(Edges.times("rim 1 1;", 6)).suspects(0), 1);
        CoinTrack between = Edges.told("coin 9 9 0 0 1; rim 1 1; hole 8 1; rim 2 1; scale 8 1;");
        between.sees(0, 0, 1);
        e.is("a rim keeps its numbers free: TEST 1", between.suspects(1), 3);
        between.forget();
        between.sees(0, 0, 3);
        e.is("a rim keeps its numbers free: TEST 3", between.suspects(1), 7);
    }

    private static void oneTestAtMost(Edges e) {
        e.sentence(21, "OFF is one TEST at most");
        CoinTrack x = Edges.told("coin 21 9 0 0 1; coin 90 31 0 0 1; hole 20 1; scale 8 1; scale 30 1;");
        x.sees(0, 0, 0);
        e.is("the hole is 1 more", x.suspects(1), 1);
        x.sees(1, 0, 2);
        e.is("the scale would be 1 more, too", x.suspects(0), 0);
        CoinTrack same = Edges.told("coin 21 9 0 0 1; coin 19 9 0 0 1; hole 20 1;");
        same.sees(0, 0, 0);
        same.sees(1, 0, 1);
        e.is("1 more and 1 less", same.suspects(0), 0);
    }

    private static void firstSuspect(Edges e) {
        e.sentence(21, "none is OFF (told as -1), TEST t is OFF by 1 less (2 t), by 1 more (2 t and 1)");
        for (int test = 0; test < 6; test++) {
            String ahead = Edges.times("rim1 1;", test);
            String behind = Edges.times("rim1 1;", 5 - test);
            CoinTrack x = Edges.told("coin 20 9 0 0 1; coin 21 9 0 0 1;" + ahead + "hole20 1;" + behind);
            x.sees(0, 0, 6);
            e.is("TEST " + test + ", 1 less", x.suspects(1), 2 * test);
            e.is("TEST " + test + ", 1 less, alone", x.suspects(0), 1);
            x.forget();
            x.sees(1, 0, test);
            e.is("TEST " + test + ", 1 more", x.suspects(1), 2 * test + 1);
            e.is("TEST " + test + ", 1 more, alone", x.suspects(0), 1);
        }
        e.sentence(21, "how many; the first of them (by these numbers); NONE.");
        CoinTrack two = Edges.told("coin 21 21 0 0 1; coin 9 9 0 0 1; hole 8 1; scale 8 1; hole 20 1; hole 20 1;");
        two.sees(1, 0, 1);
        e.is("of TEST 1 alone", two.suspects(1), 3);
        two.forget();
        two.sees(0, 0, 4);
        e.is("all but two, none first", two.suspects(0), 7);
        e.is("none first", two.suspects(1), -1);
        CoinTrack twice = Edges.told("coin 20 20 0 0 1; hole 20 1; scale 20 1;");
        twice.sees(0, 0, 1);
        e.is("the least number", twice.suspects(1), 0);
    }

    private static void seenOfNoKind(Edges e) {
        e.sentence(21, "(SEEN of a KIND that is not there, WORN by more than its WEAR, of a BIN beyond the last one is so by none.)");
        CoinTrack none = new CoinTrack();
        none.sees(0, 0, 0);
        e.is("no KINDS", none.suspects(0), 0);
        e.is("no KINDS, no first", none.suspects(1), NONE);
        CoinTrack x = Edges.laden();
        x.forget();
        x.sees(2, 0, 3);
        e.is("one beyond the last", x.suspects(0), 0);
        x.adds(99, 99, 0, 0);
        e.is("put there: it counts", x.suspects(1), -1);
        x.undo();
        e.is("UNDONE: not there", x.suspects(1), NONE);
    }

    private static void seenWornTooMuch(Edges e) {
        e.sentence(21, "WORN by more than its WEAR");
        CoinTrack x = Edges.told("coin 9 30 0 3 1; coin 9 40 0 0 1; rim 1 1;");
        x.sees(0, 3, 1);
        e.is("by WEAR", x.suspects(0), 1);
        x.sees(0, 4, 1);
        e.is("by one more", x.suspects(0), 0);
        x.forget();
        x.sees(1, 1, 1);
        e.is("WEAR 0, by 1", x.suspects(0), 0);
        x.forget();
        x.sees(0, 9, 1);
        e.is("by 9", x.suspects(1), NONE);
    }

    private static void seenInNoBin(Edges e) {
        e.sentence(21, "of a BIN beyond the last one is so by none.)");
        CoinTrack x = Edges.told("coin 9 30 0 3 1; hole 8 1;");
        x.sees(0, 0, 1);
        e.is("the last BIN", x.suspects(0), 2);
        x.sees(0, 0, 2);
        e.is("one beyond", x.suspects(0), 0);
        x.forget();
        x.sees(0, 0, 6);
        e.is("BIN 6 of two", x.suspects(1), NONE);
        CoinTrack six = Edges.told("coin 9 30 0 3 1;" + Edges.times("rim1 1;", 6));
        six.sees(0, 0, 6);
        e.is("BIN 6 of seven", six.suspects(1), -1);
        six.takes(0);
        e.is("BIN 6 of six", six.suspects(1), NONE);
    }

    private static void asAllStands(Edges e) {
        e.sentence(21, "SUSPECTS by what was SEEN, as all stands when it is asked");
        CoinTrack x = Edges.told("coin 20 9 0 0 1; hole 20 1;");
        x.sees(0, 0, 0);
        e.is("as told", x.suspects(0), 2);
        x.sets(0, 19);
        e.is("BOUND 1 less", x.suspects(1), 1);
        x.sets(0, 18);
        e.is("BOUND 2 less", x.suspects(1), NONE);
        x.undo();
        x.undo();
        e.is("UNDONE", x.suspects(1), -1);
        x.keep(0);
        Edges.typed(x, "coin 9 9 0 0 1;").tells();
        e.is("a text told: what was SEEN stays", x.suspects(0), 1);
        x.puts(0, 2, 1, 1);
        e.is("a TEST put in", x.suspects(0), 0);
        x.back(0);
        e.is("back", x.suspects(0), 2);
    }

    // ---- promise 22

    private static void lookNone(Edges e) {
        e.sentence(22, "NONE (one SUSPECT at most, no KINDS).");
        e.is("new", new CoinTrack().look(), NONE);
        e.is("no KINDS, thirteen SUSPECTS", Edges.told(Edges.times("hole9 1;", 6)).look(), NONE);
        CoinTrack x = Edges.told("coin 20 9 0 0 1; coin 21 9 0 0 1; hole 20 1;");
        e.is("three SUSPECTS", x.look(), 0);
        x.sees(0, 0, 0);
        e.is("two", x.suspects(0), 2);
        e.is("two SUSPECTS", x.look(), 10);
        x.sees(1, 0, 0);
        e.is("one", x.suspects(0), 1);
        e.is("one SUSPECT", x.look(), NONE);
        x.sees(1, 0, 1);
        e.is("none", x.suspects(0), 0);
        e.is("no SUSPECT", x.look(), NONE);
        e.is("rims alone", Edges.told("coin 20 9 0 0 1; rim 1 1;").look(), NONE);
        e.is("no TESTS", Edges.told("coin 20 9 0 8 1;").look(), NONE);
    }

    private static void lookAtLeast(Edges e) {
        e.sentence(22, "LOOK: of coins (KIND, WORN) the one of which the greatest number of SUSPECTS by which it falls into one "
                + "and the same BIN is least: 10 times the KIND, and x");
        CoinTrack greatest = Edges.told(Edges.times("coin99 99 0 9 0;", 5) + "coin99 59 0 9 0;scale49 1;");
        e.is("KIND 5, WORN by 9", greatest.look(), 59);
        CoinTrack byZero = Edges.told("coin 99 50 0 9 0; scale 49 1;");
        e.is("KIND 0, WORN by 0", byZero.look(), 0);
        CoinTrack last = Edges.told("coin 20 99 0 0 0; coin 99 60 0 9 0; hole 20 1; scale 51 1; scale 51 1;");
        // Of seven suspects one parts the first kind's coin from the others, two part that of weight 52.
        e.is("a coin that parts more goes ahead of a lesser one", last.look(), 18);
        CoinTrack three = Edges.told("coin 30 99 0 0 0; coin 20 50 0 0 0; hole 20 1; hole 19 1; scale 50 1;");
        e.is("the second KIND", three.look(), 10);
        CoinTrack firstBin = Edges.told("coin 5 9 0 0 0; coin 20 9 0 0 0; hole 20 1;");
        e.is("the first BIN is a BIN, too", firstBin.look(), 10);
    }

    private static void lookOfSeveral(Edges e) {
        e.sentence(22, "of several the least; NONE");
        CoinTrack same = Edges.told("coin 90 90 0 9 0; coin 90 90 0 9 0; hole 20 1; scale 20 1;");
        e.is("none parts them: KIND 0, WORN by 0", same.look(), 0);
        CoinTrack two = Edges.told("coin 90 60 0 9 0; coin 90 55 0 9 0; scale 54 1;");
        e.is("of KIND 0 WORN by 5 or 6, of KIND 1 by 0 or 1", two.look(), 5);
        CoinTrack second = Edges.told("coin 90 99 0 9 0; coin 90 55 0 9 0; scale 54 1;");
        e.is("of KIND 1 WORN by 0 or 1", second.look(), 10);
        CoinTrack worn = Edges.told("coin 90 60 0 9 0; scale 51 1;");
        e.is("WORN by 8 or 9", worn.look(), 8);
    }

    private static void lookChangesNothing(Edges e) {
        e.sentence(22, "(Nothing is changed.)");
        e.refused("LOOK", () -> Edges.told("coin 90 60 0 9 0; scale 51 1;"), x -> x.look(), 8);
        e.sentence(21, "(Nothing is changed.)");
        e.refused("SUSPECTS", () -> Edges.told("coin 90 60 0 9 0; scale 51 1;"), x -> x.suspects(0), 3);
    }
}
