/** Boundary cases of a new object, and of what is told (promises 1 to 4), but for FAULT. */
final class ToldEdges {
    private static final int BAD = Edges.BAD, STATE = Edges.STATE, FULL = Edges.FULL, NONE = Edges.NONE;

    static void lookAt(Edges e) {
        noKindsAtFirst(e);
        noTestsAtFirst(e);
        roomAtFirst(e);
        noCoinsAtFirst(e);
        objectsShareNothing(e);
        last512(e);
        firstAndLastLetter(e);
        lettersBeyond(e);
        fullText(e);
        letterByLetter(e);
        clear(e);
        itemsTold(e);
        textIsEmptyThen(e);
        noItems(e);
        nothingIsLeft(e);
        faultAnswers(e);
        faultChangesNothing(e);
        numbersOfCoins(e);
        wearBelowWeight(e);
        numbersOfTests(e);
        numbersOfRoom(e);
        roomToldAgain(e);
    }

    private static int answerTo(String text) {
        return Edges.typed(new CoinTrack(), text).tells();
    }

    // ---- promise 1

    private static void noKindsAtFirst(Edges e) {
        e.sentence(1, "No KINDS, no TESTS.");
        CoinTrack x = new CoinTrack();
        e.is("how many KINDS", x.count(0), 0);
        e.is("no KIND 0", x.kind(0, 0), BAD);
        e.is("no coin of KIND 0", x.drops(0, 0), BAD);
        e.is("no KINDS of the one BIN", x.bin(0, 0), 0);
        e.is("none is DOUBTFUL", x.track(1), 0);
        e.is("the first KIND is 0", x.adds(1, 1, 0, 0), 0);
    }

    private static void noTestsAtFirst(Edges e) {
        e.sentence(1, "TESTS 0, 1, .. in a row (6 at most; none at first)");
        CoinTrack x = new CoinTrack();
        e.is("how many TESTS", x.count(1), 0);
        e.is("no TEST 0", x.test(0, 0), BAD);
        e.is("none can be taken out", x.takes(0), BAD);
        e.is("none can be set", x.sets(0, 1), BAD);
        e.is("a coin falls at none", x.coin(1, 1, 0, 0), 0);
        e.is("the first TEST is the only one", x.puts(0, 0, 1, 1), 1);
    }

    private static void roomAtFirst(Edges e) {
        e.sentence(1, "ROOM (1 to 99; 20 at first).");
        CoinTrack x = new CoinTrack();
        e.is("ROOM", x.count(2), 20);
        x.adds(1, 1, 0, 0);
        for (int coin = 1; coin <= 20; coin++) {
            e.is("coin " + coin, x.drops(0, 0), 0);
        }
        e.is("coin 21", x.drops(0, 0), 100);
    }

    private static void noCoinsAtFirst(Edges e) {
        e.sentence(1, "BINS have coins (none at first).");
        CoinTrack x = new CoinTrack();
        e.is("coins of the one BIN", x.bin(0, 1), 0);
        e.is("no other BIN", x.bin(1, 1), BAD);
        e.is("coins of all", x.count(3), 0);
        e.is("no JAM", x.track(3), NONE);
        e.is("nothing SEEN", x.count(4), 0);
        e.is("no letters", x.count(5), 0);
        e.is("nothing to undo", x.undo(), STATE);
        e.is("no IMAGE 0", x.back(0), STATE);
        e.is("no IMAGE 1", x.back(1), STATE);
    }

    private static void objectsShareNothing(Edges e) {
        e.sentence(1, "No KINDS, no TESTS.");
        CoinTrack old = Edges.full();
        CoinTrack x = new CoinTrack();
        for (int what = 0; what <= 6; what++) {
            e.is("count(" + what + ") of a new one beside a full one", x.count(what), what == 2 ? 20 : 0);
        }
        x.adds(1, 1, 0, 0);
        x.forget();
        x.clear();
        e.is("the old one's KINDS stay", old.count(0), 6);
        e.is("its letters stay", old.count(5), 150);
        e.is("what it has SEEN stays", old.count(4), 6);
    }

    /** The document promises 512 calls, so the last of them is promised too. */
    private static void last512(Edges e) {
        e.sentence(1, "No KINDS, no TESTS.");
        CoinTrack x = new CoinTrack();
        for (int call = 1; call <= 510; call++) {
            e.is("call " + call, call % 2 == 1 ? x.adds(1, 1, 0, 0) : x.undo(), 0);
        }
        e.is("call 511", x.puts(0, 2, 0, 1), 1);
        e.is("call 512", x.count(1), 1);
    }

    // ---- promise 2

    private static void firstAndLastLetter(Edges e) {
        e.sentence(2, "A letter (0 .. 255) comes to THE TEXT: how many it has.");
        CoinTrack x = new CoinTrack();
        e.is("letter 0", x.type(0), 1);
        e.is("letter 255", x.type(255), 2);
        e.is("letter 128", x.type(128), 3);
        e.is("they are in it", x.count(5), 3);
    }

    private static void lettersBeyond(Edges e) {
        e.sentence(2, "BAD; FULL: 150.");
        e.beyondInEach("letter", 0, 255, (x, n) -> x.type(n), BAD);
        CoinTrack x = Edges.typed(new CoinTrack(), "room 5");
        e.is("a ; with bits ahead of it", x.type(';' + 256), BAD);
        e.is("it has not come", x.tells(), -16);
    }

    private static void fullText(Edges e) {
        e.sentence(2, "BAD; FULL: 150.");
        CoinTrack x = Edges.typed(new CoinTrack(), Edges.times("room3;", 24));
        Edges.typed(x, "room4");
        e.is("the last one that comes", x.type(';'), 150);
        e.is("one too many", x.type(' '), FULL);
        e.is("the least letter too", x.type(0), FULL);
        e.is("and again", x.type(255), FULL);
        e.is("it has 150", x.count(5), 150);
        e.is("150 letters are told", x.tells(), 25);
        e.is("the last of them too", x.count(2), 4);
        e.is("it begins anew then", x.type('r'), 1);
        e.refused("a letter", Edges::full, y -> y.type('x'), FULL);
        e.refused("BAD goes ahead, above", Edges::full, y -> y.type(256), BAD);
        e.refused("BAD goes ahead, below", Edges::full, y -> y.type(-1), BAD);
        CoinTrack blanks = Edges.typed(new CoinTrack(), Edges.times(" ", 149));
        e.is("149 are not full", blanks.count(5), 149);
        e.is("the 150th", blanks.type('x'), 150);
        e.is("it has a place of its own", blanks.tells(), -10 - 149);
    }

    private static void letterByLetter(Edges e) {
        e.sentence(2, "THE TEXT is told letter by letter (150 letters at most)");
        CoinTrack x = new CoinTrack();
        for (int n = 1; n <= 150; n++) {
            e.is("letter " + n, x.type("room1;".charAt((n - 1) % 6)), n);
            e.is("letters behind letter " + n, x.count(5), n);
        }
        e.is("letter 151", x.type('r'), FULL);
        e.is("in the order in which they came", x.tells(), 25);
        CoinTrack between = Edges.typed(new CoinTrack(), "room ");
        between.type(-1);
        between.type('5');
        between.type(256);
        between.type(';');
        e.is("refused ones are not among them", between.tells(), 1);
        e.is("and leave no gap", between.count(2), 5);
    }

    // ---- promise 3

    private static void clear(Edges e) {
        e.sentence(3, "THE TEXT is empty: how many letters it had.");
        e.refused("none at first", CoinTrack::new, x -> x.clear(), 0);
        CoinTrack one = new CoinTrack();
        one.type(0);
        e.is("one", one.clear(), 1);
        e.is("none any more", one.count(5), 0);
        e.is("not twice", one.clear(), 0);
        CoinTrack x = Edges.full();
        e.is("150", x.clear(), 150);
        e.is("it is empty", x.count(5), 0);
        e.is("it takes letters again", x.type('r'), 1);
        Edges.typed(x, "oom 9;");
        e.is("nothing of the old text is told", x.tells(), 1);
        e.is("the new one is", x.count(2), 9);
        CoinTrack faulty = Edges.typed(new CoinTrack(), "room 5; x");
        faulty.tells();
        e.is("behind a fault", faulty.clear(), 9);
        e.is("nothing is left to be told", faulty.tells(), 0);
        e.leaves("nothing else changes", Edges::laden, y -> y.clear(), 7, ToldEdges::ladenWithoutText);
    }

    private static CoinTrack ladenWithoutText() {
        CoinTrack x = Edges.told("coin 20 30 0 3 10; coin 25 40 1 9 0; hole 20 2; scale 35 3; rim 1 4; room 2;");
        x.keep(0);
        x.drops(0, 1);
        x.drops(1, 9);
        x.sees(1, 4, 2);
        return x;
    }

    // ---- promise 4

    private static void itemsTold(Edges e) {
        e.sentence(4, "THE TEXT tells all anew, and is empty then: how many ITEMS.");
        e.is("none", answerTo(""), 0);
        e.is("one", answerTo("room 5;"), 1);
        e.is("as many as there is place for", answerTo(Edges.times("room1;", 25)), 25);
        e.is("six KINDS, six TESTS, a ROOM", answerTo(Edges.times("coin1 1 0 0 0;", 6)
                + Edges.times("rim0 1;", 6) + "room1;"), 13);
        CoinTrack x = Edges.jammed();
        x.clear();
        Edges.typed(x, "coin 1 2 2 1 3;");
        e.is("over a JAM", x.tells(), 1);
        e.is("the KINDS are told anew", x.count(0), 1);
        e.is("the TESTS too", x.count(1), 0);
        e.is("ROOM too", x.count(2), 20);
        e.is("BINS have none", x.count(3), 0);
        e.is("no JAM", x.track(3), NONE);
        e.is("no bin but the last", x.bin(1, 1), BAD);
        e.is("a coin falls again", x.drops(0, 1), 0);
    }

    private static void textIsEmptyThen(Edges e) {
        e.sentence(4, "THE TEXT tells all anew, and is empty then: how many ITEMS.");
        CoinTrack x = Edges.typed(new CoinTrack(), "rim 1 1; room 5;");
        e.is("told", x.tells(), 2);
        e.is("no letters", x.count(5), 0);
        e.is("nothing to clear", x.clear(), 0);
        e.is("told again: the empty text", x.tells(), 0);
        e.is("which tells no TESTS", x.count(1), 0);
        e.is("and no ROOM", x.count(2), 20);
    }

    private static void noItems(Edges e) {
        e.sentence(4, "It tells all of these by ITEMS (none, too; what is not told is as at first), each ended by ;");
        CoinTrack x = Edges.full();
        x.clear();
        e.is("an empty text", x.tells(), 0);
        e.is("no KINDS", x.count(0), 0);
        e.is("no TESTS", x.count(1), 0);
        e.is("ROOM", x.count(2), 20);
        e.is("no coins", x.count(3), 0);
        e.is("what was SEEN stays", x.count(4), 6);
        e.is("it can be undone", x.undo(), 5);
        e.is("the KINDS are there again", x.count(0), 6);
        CoinTrack blanks = Edges.laden();
        blanks.clear();
        Edges.typed(blanks, Edges.times(" ", 150));
        e.is("blanks alone", blanks.tells(), 0);
        e.is("they are gone", blanks.count(5), 0);
        e.is("no KINDS by them", blanks.count(0), 0);
        CoinTrack kinds = Edges.told("coin 1 2 0 1 0; room 3; hole 4 4;");
        Edges.typed(kinds, "hole 5 5;").tells();
        e.is("KINDS are not told", kinds.count(0), 0);
        e.is("ROOM is not told", kinds.count(2), 20);
        Edges.typed(kinds, "room 1;").tells();
        e.is("TESTS are not told", kinds.count(1), 0);
    }

    /** Where fewer are told, nothing of those that stood there ahead is asked any more. */
    private static void nothingIsLeft(Edges e) {
        e.sentence(4, "THE TEXT tells all anew, and is empty then: how many ITEMS.");
        String most = Edges.times("coin90 30 1 9 99;", 5) + "scale25 1;rim1 9;hole99 9;";
        for (String fewer : new String[] {"", "coin 9 9 0 0 1; scale 25 1;", "coin 9 30 1 0 1;coin 9 20 1 0 1;scale 25 1;rim 1 2;"}) {
            CoinTrack x = Edges.told(most);
            Edges.typed(x, fewer).tells();
            CoinTrack twin = new CoinTrack();
            twin.tells();
            Edges.typed(twin, fewer).tells();
            e.alike("'" + fewer + "' over more", x, twin);
        }
    }

    private static void faultAnswers(Edges e) {
        e.sentence(4, "-10 less FAULT: nothing changes, THE TEXT stays.");
        e.is("FAULT 0", answerTo("x"), -10);
        e.is("FAULT 1", answerTo(" x"), -11);
        e.is("FAULT 149, the last letter", answerTo(Edges.times(" ", 149) + ";"), -159);
        e.is("FAULT 150, behind the last letter", answerTo(Edges.times("room1;", 24) + "room1 "), -160);
    }

    private static void faultChangesNothing(Edges e) {
        e.sentence(4, "-10 less FAULT: nothing changes, THE TEXT stays.");
        Edges.State laden = () -> Edges.typed(Edges.laden(), "coin 1 1 0 0 0; rim 3 1;");
        e.refused("behind ITEMS that are good", laden, x -> x.tells(), -10 - 27);
        Edges.State jammed = () -> Edges.typed(Edges.jammed(), "hole");
        e.refused("a JAM stays", jammed, x -> x.tells(), -10 - 11);
        Edges.State last = () -> {
            CoinTrack x = Edges.laden();
            x.clear();
            return Edges.typed(x, Edges.times(" ", 149) + "!");
        };
        e.refused("a full text stays", last, x -> x.tells(), -10 - 149);
        CoinTrack x = Edges.typed(new CoinTrack(), "room 5");
        e.is("a text that ends too early", x.tells(), -16);
        e.is("and once more", x.tells(), -16);
        e.is("what is missing comes to it", x.type(';'), 7);
        e.is("then it is told", x.tells(), 1);
        e.is("as a whole", x.count(2), 5);
    }

    // ---- the numbers of a text

    /** The least and the greatest number are told as they are; those beside them are faults. */
    private static void number(Edges e, String ahead, int least, int most, String behind, Edges.Call asked) {
        for (int n : new int[] {least, most}) {
            CoinTrack x = Edges.typed(new CoinTrack(), ahead + n + behind);
            e.is("'" + ahead + n + behind + "'", x.tells(), 1);
            e.is("'" + ahead + n + behind + "' tells it", asked.on(x), n);
        }
        if (least > 0) {
            e.is("'" + ahead + (least - 1) + behind + "'", answerTo(ahead + (least - 1) + behind), -10 - ahead.length());
        }
        e.is("'" + ahead + (most + 1) + behind + "'", answerTo(ahead + (most + 1) + behind), -10 - ahead.length());
    }

    private static void numbersOfCoins(Edges e) {
        e.sentence(4, "each with a DIAMETER (1 to 99), a WEIGHT (1 to 99), an EDGE (0 to 2), a WEAR (0 to 9, less than "
                + "WEIGHT), a SHARE (0 to 99).");
        number(e, "coin ", 1, 99, " 50 0 0 0;", x -> x.kind(0, 0));
        number(e, "coin 1 ", 1, 99, " 0 0 0;", x -> x.kind(0, 1));
        number(e, "coin 1 1 ", 0, 2, " 0 0;", x -> x.kind(0, 2));
        number(e, "coin 1 99 0 ", 0, 9, " 0;", x -> x.kind(0, 3));
        number(e, "coin 1 1 0 0 ", 0, 99, ";", x -> x.kind(0, 4));
    }

    private static void wearBelowWeight(Edges e) {
        e.sentence(4, "a WEAR (0 to 9, less than WEIGHT)");
        for (int weight = 1; weight <= 9; weight++) {
            e.is("WEIGHT " + weight + ", one less", answerTo("coin 1 " + weight + " 0 " + (weight - 1) + " 0;"), 1);
            e.is("WEIGHT " + weight + ", as much", answerTo("coin 1 " + weight + " 0 " + weight + " 0;"), -10 - 11);
        }
        e.is("WEIGHT 1, WEAR 9", answerTo("coin 1 1 0 9 0;"), -10 - 11);
        e.is("WEIGHT 10, WEAR 9", answerTo("coin 1 10 0 9 0;"), 1);
        e.is("the WEIGHT is the coin's own, not the one ahead", answerTo("coin 1 9 0 8 0;coin 1 2 0 8 0;"), -10 - 26);
        e.is("the WEIGHT is not the DIAMETER", answerTo("coin 9 5 0 7 0;"), -10 - 11);
    }

    private static void numbersOfTests(Edges e) {
        e.sentence(4, "each a SORT (0 hole, 1 scale, 2 rim), a BOUND (1 to 99; of a rim 0 to 2), a COST (1 to 9).");
        String[] words = {"hole", "scale", "rim"};
        for (int sort = 0; sort < words.length; sort++) {
            number(e, words[sort] + " ", sort == 2 ? 0 : 1, sort == 2 ? 2 : 99, " 5;", x -> x.test(0, 1));
            number(e, words[sort] + " 2 ", 1, 9, ";", x -> x.test(0, 2));
            e.is(words[sort], Edges.told(words[sort] + " 1 1;").test(0, 0), sort);
        }
    }

    private static void numbersOfRoom(Edges e) {
        e.sentence(4, "ROOM (1 to 99; 20 at first).");
        number(e, "room ", 1, 99, ";", x -> x.count(2));
    }

    private static void roomToldAgain(Edges e) {
        e.sentence(4, "room N (told again: the later).");
        e.is("the later is less", Edges.told("room 99; room 1;").count(2), 1);
        e.is("the later is more", Edges.told("room 1; coin 1 1 0 0 0; room 99;").count(2), 99);
        e.is("each is an ITEM", answerTo("room 7; room 7; room 7;"), 3);
        e.is("a wrong later one", answerTo("room 7; room 0;"), -10 - 13);
    }
}
