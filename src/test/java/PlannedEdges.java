/** Boundary cases of BEARS, FEWEST and ORDER (promises 13, 17, 18). */
final class PlannedEdges {
    private static final int BAD = Edges.BAD, NONE = Edges.NONE;

    static void lookAt(Edges e) {
        nothingIsChanged(e);
        bears(e);
        bearsByNone(e);
        fewest(e);
        fewestOfSeveral(e);
        fewestByNone(e);
        manyWays(e);
        orderBeyond(e);
        orderPlaces(e);
        orderNone(e);
        orderNotSoMany(e);
        orderOfLeastPrice(e);
        orderOfSeveral(e);
    }

    private static void nothingIsChanged(Edges e) {
        String words = "(Nothing is changed.)";
        Edges.State one = () -> Edges.told("coin 20 30 0 2 9; coin 25 40 1 3 1; rim 2 9; hole 20 2; rim 1 1;");
        e.sentence(13, words);
        e.refused("BEARS", one, x -> x.kind(0, 7), 29);
        e.sentence(17, words);
        e.refused("FEWEST", one, x -> x.track(4), 2);
        e.sentence(18, words);
        e.refused("ORDER", one, x -> x.order(-1), 9 * 2 + 1 * 3);
        e.refused("a place of ORDER", one, x -> x.order(0), 1);
    }

    private static void bears(Edges e) {
        e.sentence(13, "BEARS of a KIND: the greatest WEAR (0 to 98, less than its WEIGHT) by which, it being its WEAR, "
                + "KINDS are APART; NONE (by none).");
        e.is("98, the greatest", Edges.told("coin 9 99 0 0 1; scale 50 1;").kind(0, 7), 98);
        e.is("97, less than WEIGHT 98", Edges.told("coin 9 98 0 0 1;").kind(0, 7), 97);
        e.is("0, less than WEIGHT 1", Edges.told("coin 9 1 0 0 1;").kind(0, 7), 0);
        e.is("as much as its WEAR", Edges.told("coin 9 20 0 5 1; coin 9 14 0 0 1; scale 14 1;").kind(0, 7), 5);
        e.is("less than its WEAR", Edges.told("coin 9 20 0 7 1; coin 9 14 0 0 1; scale 14 1;").kind(0, 7), 5);
        e.is("0 alone", Edges.told("coin 9 20 0 7 1; coin 9 14 0 0 1; scale 19 1;").kind(0, 7), 0);
        e.is("more than 9", Edges.told("coin 9 99 0 9 1; coin 9 14 0 0 1; scale 14 1;").kind(0, 7), 84);
        e.is("down to the end past a BIN of its own", Edges.told("coin 9 50 0 0 1; coin 9 60 0 0 1; scale 20 1; scale 50 1;")
                .kind(0, 7), 49);
        e.is("not past another KIND's BIN", Edges.told("coin 9 50 0 0 1; coin 9 30 0 0 1; scale 20 1; scale 30 1;")
                .kind(0, 7), 19);
        e.is("a BIN of its own by its EDGE", Edges.told("coin 9 9 0 0 1; coin 9 99 1 0 1; rim 1 1;")
                .kind(1, 7), 98);
    }

    private static void bearsByNone(Edges e) {
        e.sentence(13, "KINDS are APART; NONE (by none).");
        e.is("it falls with another even WORN by 0", Edges.told("coin 9 20 0 0 1; coin 9 20 1 0 1;").kind(0, 7), NONE);
        CoinTrack others = Edges.told("coin 9 20 0 0 1; coin 9 20 0 0 1; coin 9 90 0 0 1; scale 20 1;");
        e.is("two others fall together", others.kind(2, 7), NONE);
        for (int last = 1; last <= 6; last++) {
            CoinTrack x = Edges.told("coin9 1 0 0 1;coin9 1 0 0 1;coin9 90 0 0 1;scale1 1;" + Edges.times("rim1 1;", last - 1));
            e.is("two others fall together, it falls into BIN " + last, x.kind(2, 7), NONE);
        }
        CoinTrack worn = Edges.told("coin 9 20 0 5 1; coin 9 14 0 0 1; coin 9 90 1 0 1; rim 1 1; scale 15 1;");
        e.is("two others fall together, WORN by WEAR", worn.kind(2, 7), NONE);
        e.is("one of them bears less", worn.kind(0, 7), 4);
        e.is("WORN by 0 it is in the other's BIN", worn.kind(1, 7), NONE);
    }

    private static void fewest(Edges e) {
        e.sentence(17, "FEWEST: of all sets of TESTS, standing in their order, all others being out, by which KINDS are APART "
                + "the one of fewest TESTS");
        e.is("no KINDS, no TESTS", new CoinTrack().track(4), 0);
        e.is("no KINDS: no TESTS are needed", Edges.told("rim 1 1; hole 1 1;").track(4), 0);
        e.is("one KIND", Edges.told("coin 9 20 0 9 1; scale 15 1; rim 1 1;").track(4), 0);
        e.is("the last of six alone", Edges.told("coin9 9 0 0 1;coin9 9 1 0 1;" + Edges.times("rim2 1;", 5) + "rim1 1;")
                .track(4), 32);
        e.is("five of six, for six KINDS", Edges.told("coin9 1 0 0 1;coin9 2 0 0 1;coin9 3 0 0 1;coin9 4 0 0 1;coin9 5 0 0 1;"
                + "coin9 6 0 0 1;scale1 1;scale2 1;scale3 1;scale4 1;scale5 1;hole1 1;").track(4), 31);
        e.is("two for three KINDS", Edges.told("coin 9 9 0 0 1; coin 9 8 1 0 1; coin 5 7 2 0 1;"
                + "hole 5 1; hole 5 1; rim 1 1; rim 0 1;").track(4), 5);
        e.is("three for four KINDS", Edges.told("coin 9 9 0 0 1; coin 9 9 1 0 1; coin 9 5 2 0 1; coin 9 4 2 0 1;"
                + "rim 0 1; scale 4 1; scale 8 1; rim 1 1;").track(4), 7);
        e.is("not APART as they stand, APART by a set", Edges.told("coin 9 9 0 0 1; coin 9 9 1 0 1; hole 9 1; rim 1 1;")
                .track(4), 2);
        e.is("they stand in their order", Edges.told("coin 9 9 0 0 1; coin 5 9 1 0 1; coin 5 9 0 0 1; hole 5 1; rim 1 1; hole 5 1;")
                .track(4), 6);
    }

    private static void fewestOfSeveral(Edges e) {
        e.sentence(17, "the one of fewest TESTS, of several the least bits; NONE.");
        e.is("each of six", Edges.told("coin 9 9 0 0 1; coin 9 9 1 0 1;" + Edges.times("rim1 1;", 6)).track(4), 1);
        e.is("the second or the third", Edges.told("coin 9 9 0 0 1; coin 9 9 1 0 1; rim2 1;rim1 1;rim0 1;").track(4), 2);
        e.is("two of four", Edges.told("coin 9 9 0 0 1; coin 9 9 1 0 1; coin 9 9 2 0 1; hole 9 1; rim 0 1; rim 1 1; rim 2 1;")
                .track(4), 6);
        e.is("a dear one of less bits", Edges.told("coin 9 9 0 0 9; coin 9 9 1 0 9; rim 1 9; rim 0 1;").track(4), 1);
    }

    private static void fewestByNone(Edges e) {
        e.sentence(17, "4 FEWEST (bits; NONE). BAD.");
        e.is("no TESTS, two KINDS", Edges.told("coin 9 9 0 0 1; coin 9 9 1 0 1;").track(4), NONE);
        e.is("two KINDS that are the same", Edges.told("coin 9 9 0 0 1; coin 9 9 0 0 1;" + Edges.times("rim0 1;", 6))
                .track(4), NONE);
        e.is("WORN, they are the same", Edges.told("coin 9 20 0 9 1; coin 9 11 0 0 1; scale 11 1; scale 15 1;").track(4), NONE);
        e.is("WORN, nearly", Edges.told("coin 9 20 0 9 1; coin 9 10 0 0 1; scale 10 1; scale 15 1;").track(4), 1);
    }

    /** Each of the kinds has coins that differ at each of the scales: none of them is forgotten. */
    private static void manyWays(Edges e) {
        String tests = "rim1 1;rim2 1;hole5 1;scale12 1;scale14 1;scale16 1;";
        String four = "coin9 20 1 9 1;coin9 20 2 9 1;coin5 20 0 9 1;coin9 20 0 9 1;";
        CoinTrack x = Edges.told(four + tests);
        CoinTrack y = Edges.told(four + "coin9 20 0 9 1;" + tests);
        CoinTrack z = Edges.told(four + "coin9 17 0 0 1;" + tests);
        e.sentence(17, "4 FEWEST (bits; NONE). BAD.");
        e.is("four KINDS, each of four ways", x.track(4), 7);
        e.is("a fifth like the fourth", y.track(4), NONE);
        e.is("a fifth like one coin of the fourth", z.track(4), NONE);
        e.sentence(18, "NONE: there is none, not so many.");
        e.is("four KINDS, each of four ways, PRICE", x.order(-1), 1 + 2 + 3 + 6);
        e.is("a fifth like the fourth, PRICE", y.order(-1), NONE);
        e.is("a fifth like one coin of the fourth, PRICE", z.order(-1), NONE);
    }

    // ---- promise 18

    private static void orderBeyond(Edges e) {
        e.sentence(18, "BAD (k below -1).");
        for (int k : new int[] {-2, -3, -9, -1000, Edges.LEAST, Edges.LEAST + 1}) {
            e.refusedInEach("k " + k, x -> x.order(k), BAD);
        }
        CoinTrack none = Edges.told("coin 9 9 0 0 1; coin 9 9 0 0 1;");
        e.is("BAD goes ahead of NONE", none.order(-2), BAD);
        e.is("-1 is not below", none.order(-1), NONE);
    }

    private static void orderPlaces(Edges e) {
        e.sentence(18, "ORDER: PRICE (k = -1), the TEST at the k-th place (0 on)");
        CoinTrack x = Edges.told("coin 9 9 0 0 2; rim 1 9; rim 2 8; rim 0 7;");
        e.is("k -1", x.order(-1), 14);
        e.is("k 0", x.order(0), 2);
        e.is("k 1", x.order(1), 0);
        e.is("k 2, the last", x.order(2), 1);
        e.is("k 3, beyond it", x.order(3), NONE);
        e.is("k -2", x.order(-2), BAD);
    }

    private static void orderNone(Edges e) {
        e.sentence(18, "NONE, if there is none.");
        CoinTrack x = Edges.told("coin 9 9 0 0 1; coin 9 9 0 0 1;" + Edges.times("rim1 1;", 6));
        for (int k = -1; k <= 7; k++) {
            e.is("there is none, k " + k, x.order(k), NONE);
        }
        x.sets(0, 0);
        e.is("still none", x.order(-1), NONE);
        x.undo();
        CoinTrack noTests = Edges.told("coin 9 9 0 0 1; coin 9 9 1 0 1;");
        e.is("no TESTS, two KINDS", noTests.order(-1), NONE);
        e.is("no TESTS, two KINDS, place 0", noTests.order(0), NONE);
    }

    private static void orderNotSoMany(Edges e) {
        e.sentence(18, "NONE: there is none, not so many.");
        for (int tests = 0; tests <= 6; tests++) {
            CoinTrack x = Edges.told("coin 9 9 0 0 1;" + Edges.times("rim1 1;", tests));
            e.is(tests + " TESTS, PRICE", x.order(-1), tests);
            for (int k = 0; k <= 7; k++) {
                e.is(tests + " TESTS, k " + k, x.order(k), k < tests ? k : NONE);
            }
            for (int k : new int[] {31, 32, 64, 256, 65536, 1 << 30, Edges.MOST}) {
                e.is(tests + " TESTS, k " + k, x.order(k), NONE);
            }
        }
    }

    private static int[] places(CoinTrack x) {
        int[] places = new int[x.count(1)];
        for (int k = 0; k < places.length; k++) {
            places[k] = x.order(k);
        }
        return places;
    }

    private static void orderOfLeastPrice(Edges e) {
        e.sentence(18, "ORDER: of all orders of the TESTS by which KINDS are APART the one of least PRICE");
        CoinTrack none = new CoinTrack();
        e.is("no KINDS, no TESTS", none.order(-1), 0);
        CoinTrack last = Edges.told("coin 9 9 0 0 1; coin 9 9 1 0 1; rim 2 9; rim 2 9; rim 2 9; rim 2 9; rim 1 1; rim 0 1;");
        e.is("the last two ahead", last.order(-1), 1 + 2);
        e.row("the last two ahead", places(last), 4, 5, 0, 1, 2, 3);
        CoinTrack round = Edges.told("coin9 1 0 0 1;coin9 2 0 0 2;coin9 3 0 0 4;coin9 4 0 0 8;coin9 5 0 0 16;"
                + "scale4 1;scale3 1;scale2 1;scale1 1;");
        e.is("one order alone, the last", round.order(-1), 1 + 2 * 2 + 4 * 3 + 8 * 4 + 16 * 4);
        e.row("one order alone", places(round), 3, 2, 1, 0);
        CoinTrack apart = Edges.told("coin 9 9 0 0 50; coin 9 50 1 0 50; hole 9 1; rim 1 9;");
        e.is("a cheaper one by which they are not APART", apart.order(-1), 50 * 10 + 50 * 9);
        e.row("the dear one ahead", places(apart), 1, 0);
        CoinTrack worn = Edges.told("coin 9 20 0 9 10; coin 9 50 1 0 1; scale 19 1; rim 0 2; rim 1 3;");
        e.is("the greatest TOLL counts", worn.order(-1), 10 * 2 + 1 * 5);
        e.row("by it", places(worn), 1, 2, 0);
    }

    private static void orderOfSeveral(Edges e) {
        e.sentence(18, "of several the first (by TESTS' numbers, place by place)");
        CoinTrack share = Edges.told("coin 9 9 0 0 0; rim 1 9; rim 1 1; rim 0 5;");
        e.is("SHARE 0: all cost nothing", share.order(-1), 0);
        e.row("SHARE 0", places(share), 0, 1, 2);
        CoinTrack noKinds = Edges.told("rim 1 9; rim 1 1; rim 0 5;");
        e.row("no KINDS", places(noKinds), 0, 1, 2);
        CoinTrack six = Edges.told("coin 9 9 0 0 9;" + Edges.times("rim 1 7;", 6));
        e.is("six that are the same", six.order(-1), 9 * 42);
        e.row("six that are the same", places(six), 0, 1, 2, 3, 4, 5);
        CoinTrack behind = Edges.told("coin 9 9 0 0 9; rim 1 1; rim 1 2; rim 0 1; rim 1 3; rim 0 1;");
        e.is("those behind do not matter", behind.order(-1), 9);
        e.row("the first of two, then the others as they stand", places(behind), 2, 0, 1, 3, 4);
    }
}
