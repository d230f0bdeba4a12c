/** Boundary cases of what is asked (promises 13 to 17), but for what is planned. */
final class AskedEdges {
    private static final int BAD = Edges.BAD, NONE = Edges.NONE;

    static void lookAt(Edges e) {
        kindBeyond(e);
        kindNumbers(e);
        binsOfKind(e);
        greatestToll(e);
        testBeyond(e);
        testNumbers(e);
        binBeyond(e);
        kindsOfBin(e);
        coinsOfBin(e);
        coinBeyond(e);
        hole(e);
        scale(e);
        rim(e);
        fromTestZeroOn(e);
        binOfTest(e);
        fallsAtNone(e);
        toll(e);
        falseCoin(e);
        trackBeyond(e);
        apart(e);
        doubtful(e);
        price(e);
        jam(e);
    }

    // ---- promise 13

    private static void kindBeyond(Edges e) {
        e.sentence(13, "7 BEARS (NONE). BAD.");
        e.beyond("no KINDS, KIND", CoinTrack::new, 0, -1, (x, n) -> x.kind(n, 0), BAD);
        for (int what = 0; what <= 7; what++) {
            int asked = what;
            e.beyond("two KINDS, what " + what + ", KIND", Edges::laden, 0, 1, (x, n) -> x.kind(n, asked), BAD);
        }
        e.beyond("six KINDS, KIND", Edges::full, 0, 5, (x, n) -> x.kind(n, 7), BAD);
        e.beyond("what", Edges::laden, 0, 7, (x, n) -> x.kind(1, n), BAD);
        e.beyond("KIND and what", Edges::laden, 0, 7, (x, n) -> x.kind(n, n), BAD);
    }

    private static void kindNumbers(Edges e) {
        e.sentence(13, "Of a KIND: 0 DIAMETER, 1 WEIGHT, 2 EDGE, 3 WEAR, 4 SHARE");
        CoinTrack x = Edges.told("coin 1 1 0 0 0; coin 99 98 2 9 97;");
        int[][] rows = {{1, 1, 0, 0, 0}, {99, 98, 2, 9, 97}};
        for (int kind = 0; kind < rows.length; kind++) {
            for (int what = 0; what < 5; what++) {
                e.is(kind == 0 ? "the least, " + what : "the greatest, " + what, x.kind(kind, what), rows[kind][what]);
            }
        }
    }

    private static void binsOfKind(Edges e) {
        e.sentence(13, "5 BINS of its coins (bits)");
        e.is("no TESTS: the last BIN", Edges.told("coin 9 20 0 9 1;").kind(0, 5), 1);
        e.is("at none of six: BIN 6", Edges.told("coin 9 20 0 9 1;" + Edges.times("rim1 1;", 6)).kind(0, 5), 64);
        e.is("only the coin WORN by 0 falls elsewhere", Edges.told("coin 9 20 0 9 1; scale 19 1;").kind(0, 5), 3);
        e.is("only the coin WORN by WEAR falls elsewhere", Edges.told("coin 9 20 0 9 1; scale 11 1;").kind(0, 5), 3);
        e.is("a coin WORN by more would", Edges.told("coin 9 20 0 9 1; scale 10 1;").kind(0, 5), 2);
        e.is("as heavy as the BOUND", Edges.told("coin 9 20 0 9 1; scale 20 1;").kind(0, 5), 1);
        e.is("all seven BINS", Edges.told("coin 9 20 0 9 1; scale11 1;scale12 1;scale13 1;scale14 1;scale15 1;scale16 1;")
                .kind(0, 5), 127);
        e.is("a BIN between has none", Edges.told("coin 9 20 0 9 1; scale 15 1; rim 1 1;").kind(0, 5), 5);
    }

    private static void greatestToll(Edges e) {
        e.sentence(13, "6 its greatest TOLL");
        e.is("no TESTS", Edges.told("coin 9 20 0 9 1;").kind(0, 6), 0);
        e.is("the first TEST", Edges.told("coin 9 20 0 9 1; scale 20 9; rim 1 1;").kind(0, 6), 9);
        e.is("of the coin WORN by 0 alone", Edges.told("coin 9 20 0 9 1; scale 19 1; rim 0 2; rim 1 4;").kind(0, 6), 3);
        e.is("at the last TEST", Edges.told("coin 9 20 0 9 1; scale 10 1; rim 1 2; rim 0 4;").kind(0, 6), 7);
        e.is("at none: of all", Edges.told("coin 9 20 0 9 1; scale 10 1; rim 1 2; rim 1 4;").kind(0, 6), 7);
        e.is("the greatest", Edges.told("coin 9 20 0 9 1;" + Edges.times("rim1 9;", 6)).kind(0, 6), 54);
    }

    // ---- promise 14

    private static void testBeyond(Edges e) {
        e.sentence(14, "Of a TEST: 0 SORT, 1 BOUND, 2 COST. BAD.");
        e.beyond("no TESTS, TEST", CoinTrack::new, 0, -1, (x, n) -> x.test(n, 0), BAD);
        e.beyond("three TESTS, TEST", Edges::laden, 0, 2, (x, n) -> x.test(n, 1), BAD);
        e.beyond("six TESTS, TEST", Edges::full, 0, 5, (x, n) -> x.test(n, 2), BAD);
        e.beyond("what", Edges::laden, 0, 2, (x, n) -> x.test(1, n), BAD);
        e.beyond("what of the last one", Edges::full, 0, 2, (x, n) -> x.test(5, n), BAD);
        CoinTrack x = Edges.laden();
        x.takes(2);
        e.is("taken out", x.test(2, 0), BAD);
    }

    private static void testNumbers(Edges e) {
        e.sentence(14, "Of a TEST: 0 SORT, 1 BOUND, 2 COST. BAD.");
        CoinTrack x = Edges.told("hole 1 9; hole 99 1; scale 1 9; scale 99 1; rim 0 9; rim 2 1;");
        int[][] rows = {{0, 1, 9}, {0, 99, 1}, {1, 1, 9}, {1, 99, 1}, {2, 0, 9}, {2, 2, 1}};
        for (int test = 0; test < rows.length; test++) {
            for (int what = 0; what < 3; what++) {
                e.is("TEST " + test + ", " + what, x.test(test, what), rows[test][what]);
            }
        }
    }

    // ---- promise 15

    private static void binBeyond(Edges e) {
        e.sentence(15, "Of a BIN: its KINDS (bits; what = 0), how many coins it has (1). BAD.");
        for (int what = 0; what <= 1; what++) {
            int asked = what;
            e.beyond("one BIN, BIN", CoinTrack::new, 0, 0, (x, n) -> x.bin(n, asked), BAD);
            e.beyond("four BINS, BIN", Edges::laden, 0, 3, (x, n) -> x.bin(n, asked), BAD);
            e.beyond("seven BINS, BIN", Edges::full, 0, 6, (x, n) -> x.bin(n, asked), BAD);
        }
        e.beyondInEach("what", 0, 1, (x, n) -> x.bin(0, n), BAD);
        CoinTrack x = Edges.laden();
        e.is("the last BIN is there", x.bin(3, 0), 0);
        x.takes(0);
        e.is("it is not, with a TEST less", x.bin(3, 0), BAD);
    }

    private static void kindsOfBin(Edges e) {
        e.sentence(15, "KINDS of a BIN: those of which some coin (WORN by something) falls into it.");
        CoinTrack x = Edges.told("coin 9 20 0 9 1; coin 9 11 0 0 1; coin 9 12 1 0 0; scale 11 1; rim 1 1;");
        e.is("a coin WORN by WEAR, and another KIND", x.bin(0, 0), 3);
        e.is("of SHARE 0, too", x.bin(1, 0), 4);
        e.is("the last BIN", x.bin(2, 0), 1);
        e.is("no KINDS", Edges.told("rim 1 1;").bin(1, 0), 0);
        e.is("no coin falls there", Edges.told("coin 9 20 0 9 1; scale 10 1;").bin(0, 0), 0);
        e.is("six KINDS in one BIN", Edges.told(Edges.times("coin1 1 0 0 0;", 6)).bin(0, 0), 63);
        x.drops(1, 0);
        e.is("coins that were DROPPED do not matter", x.bin(0, 0), 3);
    }

    private static void coinsOfBin(Edges e) {
        e.sentence(15, "how many coins it has (1)");
        CoinTrack x = Edges.full();
        e.is("none", x.bin(0, 1), 0);
        e.is("as many as ROOM", x.bin(3, 1), 1);
        e.is("BIN 5", x.bin(5, 1), 1);
        e.is("the last", x.bin(6, 1), 0);
        CoinTrack jammed = Edges.jammed();
        e.is("at a JAM", jammed.bin(0, 1), 2);
    }

    // ---- promise 16

    private static void coinBeyond(Edges e) {
        e.sentence(16, "A coin of DIAMETER d, WEIGHT w (1 .. 99 each), EDGE e (0 .. 2), of whatever KIND");
        e.beyondInEach("d", 1, 99, (x, n) -> x.coin(n, 1, 0, 0), BAD);
        e.beyondInEach("w", 1, 99, (x, n) -> x.coin(1, n, 0, 0), BAD);
        e.beyondInEach("e", 0, 2, (x, n) -> x.coin(1, 1, n, 0), BAD);
        e.sentence(16, "TOLL (2). BAD.");
        e.beyondInEach("what", 0, 2, (x, n) -> x.coin(1, 1, 0, n), BAD);
        e.sentence(16, "the BIN into which it falls (what = 0)");
        CoinTrack x = Edges.laden();
        e.is("the least", x.coin(1, 1, 0, 0), 0);
        e.is("the greatest", x.coin(99, 99, 2, 0), 3);
    }

    private static void hole(Edges e) {
        e.sentence(16, "at a hole, if its DIAMETER is BOUND or less");
        for (int bound : new int[] {1, 2, 50, 98, 99}) {
            CoinTrack x = Edges.told("hole " + bound + " 1;");
            for (int d = 1; d <= 99; d++) {
                e.is("BOUND " + bound + ", DIAMETER " + d, x.coin(d, d <= bound ? 99 : 1, 2, 0), d <= bound ? 0 : 1);
            }
        }
    }

    private static void scale(Edges e) {
        e.sentence(16, "at a scale, if its WEIGHT is BOUND or less");
        for (int bound : new int[] {1, 2, 50, 98, 99}) {
            CoinTrack x = Edges.told("scale " + bound + " 1;");
            for (int w = 1; w <= 99; w++) {
                e.is("BOUND " + bound + ", WEIGHT " + w, x.coin(w <= bound ? 99 : 1, w, 2, 0), w <= bound ? 0 : 1);
            }
        }
    }

    private static void rim(Edges e) {
        e.sentence(16, "at a rim, if its EDGE is BOUND.");
        for (int bound = 0; bound <= 2; bound++) {
            CoinTrack x = Edges.told("rim " + bound + " 1;");
            for (int edge = 0; edge <= 2; edge++) {
                e.is("BOUND " + bound + ", EDGE " + edge, x.coin(1, 1, edge, 0), edge == bound ? 0 : 1);
                e.is("BOUND " + bound + ", EDGE " + edge + ", great", x.coin(99, 99, edge, 0), edge == bound ? 0 : 1);
            }
        }
    }

    private static void fromTestZeroOn(Edges e) {
        e.sentence(16, "A coin ROLLS along THE TRACK, from TEST 0 on, till it falls");
        CoinTrack x = Edges.told("hole 10 1; scale 10 1; rim 1 1; hole 20 1; scale 20 1; rim 2 1;");
        e.is("at all: the first", x.coin(10, 10, 1, 0), 0);
        e.is("at all but the first", x.coin(11, 10, 1, 0), 1);
        e.is("from TEST 2 on", x.coin(11, 11, 1, 0), 2);
        e.is("from TEST 3 on", x.coin(20, 20, 0, 0), 3);
        e.is("from TEST 4 on", x.coin(21, 20, 2, 0), 4);
        e.is("at the last one alone", x.coin(21, 21, 2, 0), 5);
        e.is("at none", x.coin(21, 21, 0, 0), 6);
    }

    private static void binOfTest(Edges e) {
        e.sentence(16, "It falls into the BIN that has the TEST's number");
        for (int test = 0; test < 6; test++) {
            CoinTrack x = Edges.told(Edges.times("rim1 1;", test) + "rim0 1;" + Edges.times("rim1 1;", 5 - test));
            e.is("TEST " + test, x.coin(9, 9, 0, 0), test);
            x.adds(9, 9, 0, 0);
            e.is("TEST " + test + ", DROPPED", x.drops(0, 0), test);
            e.is("TEST " + test + ", its coin", x.bin(test, 1), 1);
        }
    }

    private static void fallsAtNone(Edges e) {
        e.sentence(16, "if it falls at none, into the last BIN (its number is how many TESTS there are).");
        for (int tests = 0; tests <= 6; tests++) {
            e.is(tests + " TESTS", Edges.told(Edges.times("rim 1 1;", tests)).coin(1, 1, 0, 0), tests);
        }
    }

    private static void toll(Edges e) {
        e.sentence(16, "Its TOLL: COSTS of the TESTS from 0 on up to the one at which it falls (of all, if at none).");
        CoinTrack x = Edges.told("hole 10 1; hole 20 2; hole 30 4; hole 40 8; hole 50 9; hole 60 9;");
        int[] tolls = {1, 3, 7, 15, 24, 33, 33};
        for (int bin = 0; bin < tolls.length; bin++) {
            e.is("BIN " + bin, x.coin(10 + 10 * bin, 1, 0, 2), tolls[bin]);
        }
        e.is("no TESTS", new CoinTrack().coin(1, 1, 0, 2), 0);
        e.is("the greatest", Edges.told(Edges.times("rim 1 9;", 6)).coin(1, 1, 0, 2), 54);
    }

    private static void falseCoin(Edges e) {
        e.sentence(16, "KINDS of that BIN (bits; 1)");
        CoinTrack x = Edges.told("coin 9 20 0 9 1; coin 9 11 0 0 1; scale 11 1; rim 1 1; rim 2 1;");
        e.is("taken for two", x.coin(99, 11, 2, 1), 3);
        e.is("taken for none", x.coin(99, 12, 1, 1), 0);
        e.is("taken for one, in the last BIN", x.coin(99, 99, 0, 1), 1);
        e.is("no KINDS, no TESTS", new CoinTrack().coin(1, 1, 0, 1), 0);
    }

    // ---- promise 17

    private static void trackBeyond(Edges e) {
        e.sentence(17, "4 FEWEST (bits; NONE). BAD.");
        e.beyondInEach("what", 0, 4, (x, n) -> x.track(n), BAD);
    }

    private static void apart(Edges e) {
        e.sentence(17, "They are APART, if no BIN has two KINDS or more.");
        e.is("no KINDS", new CoinTrack().track(0), 1);
        e.is("no KINDS, TESTS", Edges.told("rim 1 1;").track(0), 1);
        e.is("one KIND in two BINS", Edges.told("coin 9 20 0 9 1; scale 15 1;").track(0), 1);
        e.is("two KINDS, one BIN", Edges.told("coin 9 20 0 9 1; coin 9 20 1 9 1;").track(0), 0);
        e.is("two KINDS, each in a BIN", Edges.told("coin 9 20 0 9 1; coin 9 10 0 9 1; scale 10 1;").track(0), 1);
        e.is("a coin WORN by WEAR is with another KIND", Edges.told("coin 9 20 0 9 1; coin 9 10 0 9 1; scale 11 1;").track(0), 0);
        e.is("a coin WORN by 0 is with another KIND", Edges.told("coin 9 20 0 9 1; coin 9 10 0 9 1; scale 9 1;").track(0), 0);
        e.is("two KINDS in the last BIN", Edges.told("coin 9 1 0 0 1; coin 9 2 0 0 1; coin 9 3 0 0 1; scale 1 1;").track(0), 0);
        e.is("of SHARE 0, too", Edges.told("coin 9 1 0 0 0; coin 9 1 0 0 0;").track(0), 0);
        e.is("six KINDS, seven BINS", Edges.told("coin9 1 0 0 0;coin9 2 0 0 0;coin9 3 0 0 0;coin9 4 0 0 0;coin9 5 0 0 0;"
                + "coin9 6 0 0 0;scale1 1;scale2 1;scale3 1;scale4 1;scale5 1;scale6 1;").track(0), 1);
    }

    private static void doubtful(Edges e) {
        e.sentence(17, "DOUBTFUL is a KIND whose coins can fall into two BINS or more.");
        e.is("no KINDS", new CoinTrack().track(1), 0);
        e.is("one BIN", Edges.told("coin 9 20 0 9 1; scale 10 1;").track(1), 0);
        e.is("by WEAR alone", Edges.told("coin 9 20 0 9 1; scale 11 1;").track(1), 1);
        e.is("by 0 alone", Edges.told("coin 9 20 0 9 1; scale 19 1;").track(1), 1);
        e.is("all in the first", Edges.told("coin 9 20 0 9 1; scale 20 1;").track(1), 0);
        e.is("three BINS", Edges.told("coin 9 20 0 9 1; scale 12 1; scale 15 1;").track(1), 1);
        e.is("no WEAR", Edges.told("coin 9 20 0 0 1; scale 19 1;").track(1), 0);
        e.is("the sixth alone", Edges.told(Edges.times("coin9 9 0 0 0;", 5) + "coin9 20 0 1 0;scale19 1;").track(1), 32);
        e.is("all six", Edges.told(Edges.times("coin9 20 0 1 0;", 6) + "scale19 1;").track(1), 63);
    }

    private static void price(Edges e) {
        e.sentence(17, "PRICE: for each KIND its SHARE times the greatest TOLL of its coins, together.");
        e.is("no KINDS", Edges.told("rim 1 9;").track(2), 0);
        e.is("no TESTS", Edges.told("coin 9 20 0 9 99;").track(2), 0);
        e.is("SHARE 0", Edges.told("coin 9 20 0 9 0; rim 1 9;").track(2), 0);
        e.is("the greatest TOLL", Edges.told("coin 9 20 0 9 10; scale 19 1; rim 1 2;").track(2), 30);
        e.is("together", Edges.told("coin 9 20 0 9 10; coin 9 5 0 0 7; scale 19 1; rim 1 2;").track(2), 37);
        e.is("the greatest", Edges.told(Edges.times("coin1 9 0 0 99;", 6) + Edges.times("rim1 9;", 6)).track(2), 32076);
    }

    private static void jam(Edges e) {
        e.sentence(17, "3 at which BIN there is a JAM (NONE)");
        e.is("new", new CoinTrack().track(3), NONE);
        e.is("coins, no JAM", Edges.laden().track(3), NONE);
        e.is("a BIN that is full, no JAM", Edges.full().track(3), NONE);
        e.is("at BIN 0", Edges.jammed().track(3), 0);
        CoinTrack last = Edges.told("coin 9 9 0 0 1; room 1;" + Edges.times("rim 1 1;", 6));
        last.drops(0, 0);
        last.drops(0, 0);
        e.is("at BIN 6", last.track(3), 6);
    }
}
