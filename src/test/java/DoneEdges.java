/** Boundary cases of what is done (promises 5 to 11). */
final class DoneEdges {
    private static final int BAD = Edges.BAD, STATE = Edges.STATE, FULL = Edges.FULL, NONE = Edges.NONE;

    static void lookAt(Edges e) {
        wornBy(e);
        dropsBeyond(e);
        lastBin(e);
        fewerThanRoom(e);
        jamAtBin(e);
        coinInNone(e);
        jamRefusesDrops(e);
        droppedWithoutJam(e);
        frees(e);
        coinGivenBack(e);
        freesWithoutJam(e);
        empties(e);
        noneAnyMore(e);
        emptiesBeyond(e);
        emptiesNone(e);
        jamStaysAtEmptied(e);
        putsAtPlaces(e);
        putsMoves(e);
        putsNumbers(e);
        putsBeyond(e);
        putsFull(e);
        takes(e);
        takesMoves(e);
        takesLeavesNothing(e);
        takesBeyond(e);
        sets(e);
        setsBeyond(e);
        setsTheSame(e);
        adds(e);
        addsBeyond(e);
        addsFull(e);
        sixKindsAtMost(e);
        binsEmptiedByDeeds(e);
        binsKeptByDeeds(e);
    }

    // ---- promise 5

    private static void wornBy(Edges e) {
        e.sentence(5, "A coin of a KIND is WORN by x (0 to WEAR): it has DIAMETER and EDGE of the KIND, its WEIGHT less x.");
        CoinTrack x = Edges.told("coin 50 60 1 9 1; coin 50 1 1 0 1; coin 50 10 1 9 1; scale 51 1; scale 52 1; scale 59 1;");
        e.is("by 0", x.drops(0, 0), 3);
        e.is("by 1", x.drops(0, 1), 2);
        e.is("by one less than WEAR", x.drops(0, 8), 1);
        e.is("by WEAR", x.drops(0, 9), 0);
        e.is("by more", x.drops(0, 10), BAD);
        e.is("WEAR 0, by 0", x.drops(1, 0), 0);
        e.is("WEAR 0, by 1", x.drops(1, 1), BAD);
        e.is("down to WEIGHT 1", x.drops(2, 9), 0);
        CoinTrack same = Edges.told("coin 50 60 1 9 1; hole 49 1; rim 0 1; rim 2 1; hole 50 1;");
        e.is("DIAMETER and EDGE do not wear", same.drops(0, 9), 3);
    }

    private static void dropsBeyond(Edges e) {
        e.sentence(5, "BAD; STATE: there is a JAM.");
        e.beyond("no KINDS, KIND", CoinTrack::new, 0, -1, (x, n) -> x.drops(n, 0), BAD);
        e.beyond("two KINDS, KIND", Edges::laden, 0, 1, (x, n) -> x.drops(n, 0), BAD);
        e.beyond("six KINDS, KIND", Edges::full, 0, 5, (x, n) -> x.drops(n, 0), BAD);
        e.beyond("WORN by 0 to 3, x", Edges::laden, 0, 3, (x, n) -> x.drops(0, n), BAD);
        e.beyond("WORN by 0 to 9, x", Edges::laden, 0, 9, (x, n) -> x.drops(1, n), BAD);
        e.beyond("WORN by 0 alone, x", Edges::full, 0, 0, (x, n) -> x.drops(2, n), BAD);
    }

    private static void lastBin(Edges e) {
        e.sentence(5, "if it falls at none, into the last BIN (its number is how many TESTS there are).");
        CoinTrack x = new CoinTrack();
        x.adds(99, 99, 0, 0);
        e.is("no TESTS", x.drops(0, 0), 0);
        for (int tests = 1; tests <= 6; tests++) {
            x.puts(0, tests % 3, 2, 1);
            e.is(tests + " TESTS", x.drops(0, 0), tests);
            e.is(tests + " TESTS, its coin", x.bin(tests, 1), 1);
        }
    }

    private static void fewerThanRoom(Edges e) {
        e.sentence(5, "if the BIN into which it falls has fewer than ROOM, it has one more; else there is a JAM at that BIN");
        for (int room : new int[] {1, 2, 20, 99}) {
            CoinTrack x = Edges.told("coin 9 9 0 0 1; rim 0 1; room " + room + ";");
            for (int had = 0; had < room; had++) {
                e.is("ROOM " + room + ", it had " + had, x.drops(0, 0), 0);
                e.is("ROOM " + room + ", one more than " + had, x.bin(0, 1), had + 1);
            }
            e.is("ROOM " + room + ", it had as many", x.drops(0, 0), 100);
            e.is("ROOM " + room + ", it has as many", x.bin(0, 1), room);
        }
        CoinTrack two = Edges.told("coin 9 9 0 0 1; coin 9 9 1 0 1; rim 0 1; room 1;");
        two.drops(0, 0);
        e.is("another BIN's coins do not count", two.drops(1, 0), 1);
    }

    private static void jamAtBin(Edges e) {
        e.sentence(5, "100 and the BIN: there is a JAM at it then.");
        for (int tests = 0; tests <= 6; tests++) {
            CoinTrack x = Edges.told("coin 9 9 0 0 1; room 1;" + Edges.times("rim 1 1;", tests));
            e.is("into BIN " + tests, x.drops(0, 0), tests);
            e.is("no JAM yet at " + tests, x.track(3), NONE);
            e.is("JAM at BIN " + tests, x.drops(0, 0), 100 + tests);
            e.is("it is told, at " + tests, x.track(3), tests);
        }
    }

    private static void coinInNone(Edges e) {
        e.sentence(5, "(the coin is in none)");
        CoinTrack x = Edges.laden();
        x.drops(0, 0);
        e.is("coins ahead", x.count(3), 3);
        e.is("JAM", x.drops(0, 0), 100);
        e.is("coins then", x.count(3), 3);
        for (int bin = 0; bin <= 3; bin++) {
            e.is("BIN " + bin, x.bin(bin, 1), bin == 0 ? 2 : bin == 1 ? 1 : 0);
        }
        e.is("it is a call that was not refused", x.count(6), 5);
    }

    private static void jamRefusesDrops(Edges e) {
        e.sentence(5, "BAD; STATE: there is a JAM.");
        e.refused("the same coin", Edges::jammed, x -> x.drops(0, 0), STATE);
        e.refused("a coin of a BIN that has room", Edges::jammed, x -> x.drops(1, 9), STATE);
        e.refused("a coin of a BIN that has none", Edges::jammed, x -> x.drops(1, 0), STATE);
        e.refused("BAD goes ahead, KIND", Edges::jammed, x -> x.drops(2, 0), BAD);
        e.refused("BAD goes ahead, x", Edges::jammed, x -> x.drops(0, 4), BAD);
    }

    private static void droppedWithoutJam(Edges e) {
        e.sentence(5, "DROPPED, a coin (if there is no JAM)");
        CoinTrack freed = Edges.jammed();
        e.is("a JAM", freed.drops(1, 9), STATE);
        freed.frees();
        e.is("FREED", freed.drops(1, 9), 1);
        CoinTrack undone = Edges.jammed();
        undone.undo();
        e.is("the JAM UNDONE", undone.drops(1, 9), 1);
        CoinTrack set = Edges.jammed();
        set.sets(2, 0);
        e.is("a BOUND made another one", set.drops(0, 0), 0);
        CoinTrack back = Edges.jammed();
        back.back(0);
        e.is("back to an IMAGE without a JAM", back.drops(0, 0), 0);
    }

    // ---- promise 6

    private static void frees(Edges e) {
        e.sentence(6, "FREED: at which BIN the JAM was.");
        for (int tests = 0; tests <= 6; tests++) {
            CoinTrack x = Edges.told("coin 9 9 0 0 1; room 1;" + Edges.times("rim 1 1;", tests));
            x.drops(0, 0);
            x.drops(0, 0);
            e.is("at BIN " + tests, x.frees(), tests);
            e.is("no JAM any more at " + tests, x.track(3), NONE);
        }
    }

    private static void coinGivenBack(Edges e) {
        e.sentence(6, "FREED: no JAM any more (the coin is given back).");
        for (int tests = 0; tests <= 6; tests++) {
            CoinTrack x = Edges.told("coin 9 9 0 0 1; room 1;" + Edges.times("rim 1 1;", tests));
            x.drops(0, 0);
            x.drops(0, 0);
            x.frees();
            e.is("the BIN has no more than it had, BIN " + tests, x.bin(tests, 1), 1);
            e.is("nor has any other, BIN " + tests, x.count(3), 1);
            e.is("it is full still, BIN " + tests, x.drops(0, 0), 100 + tests);
            e.is("FREED again, BIN " + tests, x.frees(), tests);
        }
    }

    private static void freesWithoutJam(Edges e) {
        e.sentence(6, "STATE: there is none.");
        e.refused("new", CoinTrack::new, x -> x.frees(), STATE);
        e.refused("coins, no JAM", Edges::laden, x -> x.frees(), STATE);
        e.refused("a BIN that is full, no JAM", Edges::full, x -> x.frees(), STATE);
        Edges.State freed = () -> {
            CoinTrack x = Edges.jammed();
            x.frees();
            return x;
        };
        e.refused("FREED already", freed, x -> x.frees(), STATE);
        Edges.State undone = () -> {
            CoinTrack x = Edges.jammed();
            x.undo();
            return x;
        };
        e.refused("the JAM is UNDONE", undone, x -> x.frees(), STATE);
    }

    // ---- promise 7

    private static void empties(Edges e) {
        e.sentence(7, "EMPTIED: how many coins the BIN had.");
        CoinTrack x = Edges.laden();
        e.is("one", x.empties(0), 1);
        CoinTrack most = Edges.told("coin 9 9 0 0 1; room 99;");
        for (int i = 0; i < 99; i++) {
            most.drops(0, 0);
        }
        e.is("99, the only BIN", most.empties(0), 99);
        CoinTrack last = Edges.told("coin 9 9 0 0 1;" + Edges.times("rim 1 1;", 6));
        last.drops(0, 0);
        e.is("the last BIN of seven", last.empties(6), 1);
    }

    private static void noneAnyMore(Edges e) {
        e.sentence(7, "EMPTIED: a BIN has none any more.");
        CoinTrack x = Edges.full();
        e.is("a BIN that is full", x.empties(3), 1);
        e.is("it has none", x.bin(3, 1), 0);
        e.is("another BIN keeps its own", x.bin(5, 1), 1);
        e.is("it takes a coin again", x.drops(2, 0), 3);
        e.is("and is full again", x.drops(2, 0), 103);
    }

    private static void emptiesBeyond(Edges e) {
        e.sentence(7, "BAD; STATE: none.");
        e.beyond("one BIN, BIN", CoinTrack::new, 0, 0, (x, n) -> x.empties(n), BAD);
        e.beyond("four BINS, BIN", Edges::laden, 0, 3, (x, n) -> x.empties(n), BAD);
        e.beyond("four BINS and a JAM, BIN", Edges::jammed, 0, 3, (x, n) -> x.empties(n), BAD);
        e.beyond("seven BINS, BIN", Edges::full, 0, 6, (x, n) -> x.empties(n), BAD);
    }

    private static void emptiesNone(Edges e) {
        e.sentence(7, "BAD; STATE: none.");
        e.refused("the only BIN", CoinTrack::new, x -> x.empties(0), STATE);
        e.refused("a BIN without coins", Edges::laden, x -> x.empties(2), STATE);
        e.refused("the last BIN", Edges::laden, x -> x.empties(3), STATE);
        e.refused("the last BIN of seven", Edges::full, x -> x.empties(6), STATE);
        Edges.State emptied = () -> {
            CoinTrack x = Edges.jammed();
            x.empties(0);
            return x;
        };
        e.refused("EMPTIED already, a JAM at it", emptied, x -> x.empties(0), STATE);
    }

    private static void jamStaysAtEmptied(Edges e) {
        e.sentence(7, "(A JAM at it stays.)");
        CoinTrack x = Edges.jammed();
        e.is("EMPTIED", x.empties(0), 2);
        e.is("the JAM stays", x.track(3), 0);
        e.is("it refuses a coin", x.drops(0, 0), STATE);
        e.is("another BIN EMPTIED", x.empties(1), 1);
        e.is("the JAM stays then, too", x.track(3), 0);
        e.is("FREED", x.frees(), 0);
        e.is("the BIN takes a coin", x.drops(0, 0), 0);
    }

    // ---- promise 8

    private static int[] bounds(CoinTrack x) {
        int[] bounds = new int[x.count(1)];
        for (int test = 0; test < bounds.length; test++) {
            bounds[test] = x.test(test, 1);
        }
        return bounds;
    }

    private static void putsAtPlaces(Edges e) {
        e.sentence(8, "A TEST is put in at a place (0 to how many there are): how many there are then.");
        CoinTrack x = new CoinTrack();
        e.is("place 0 of none", x.puts(0, 0, 10, 1), 1);
        e.is("behind the only one", x.puts(1, 1, 20, 2), 2);
        e.is("ahead of all", x.puts(0, 2, 0, 3), 3);
        e.is("between", x.puts(1, 0, 30, 4), 4);
        e.is("ahead of the last", x.puts(3, 1, 40, 5), 5);
        e.is("the sixth, behind all", x.puts(5, 0, 50, 6), 6);
        e.is("as many as there are", x.count(1), 6);
    }

    private static void putsMoves(Edges e) {
        e.sentence(8, "a TEST put in at a place (those from there on move by one)");
        CoinTrack x = new CoinTrack();
        x.puts(0, 0, 10, 1);
        x.puts(1, 1, 20, 2);
        e.row("put in behind all: none moves", bounds(x), 10, 20);
        x.puts(0, 2, 0, 3);
        e.row("put in ahead of all: all move", bounds(x), 0, 10, 20);
        x.puts(1, 0, 30, 4);
        e.row("put in between: the one ahead stays", bounds(x), 0, 30, 10, 20);
        x.puts(3, 1, 40, 5);
        e.row("put in ahead of the last: it alone moves", bounds(x), 0, 30, 10, 40, 20);
        x.puts(5, 0, 50, 6);
        e.row("the sixth, behind all", bounds(x), 0, 30, 10, 40, 20, 50);
        int[] costs = {3, 4, 1, 5, 2, 6};
        int[] sorts = {2, 0, 0, 1, 1, 0};
        for (int test = 0; test < 6; test++) {
            e.is("COST moves too, " + test, x.test(test, 2), costs[test]);
            e.is("SORT moves too, " + test, x.test(test, 0), sorts[test]);
        }
    }

    private static void putsNumbers(Edges e) {
        e.sentence(8, "each a SORT (0 hole, 1 scale, 2 rim), a BOUND (1 to 99; of a rim 0 to 2), a COST (1 to 9).");
        int[][] good = {{0, 1, 1}, {0, 99, 9}, {1, 1, 9}, {1, 99, 1}, {2, 0, 1}, {2, 2, 9}};
        CoinTrack x = new CoinTrack();
        for (int i = 0; i < good.length; i++) {
            e.is("TEST " + i, x.puts(i, good[i][0], good[i][1], good[i][2]), i + 1);
            for (int what = 0; what < 3; what++) {
                e.is("TEST " + i + ", " + what, x.test(i, what), good[i][what]);
            }
        }
    }

    private static void putsBeyond(Edges e) {
        e.sentence(8, "BAD; FULL: 6.");
        e.beyond("no TESTS, place", CoinTrack::new, 0, 0, (x, n) -> x.puts(n, 0, 1, 1), BAD);
        e.beyond("three TESTS, place", Edges::laden, 0, 3, (x, n) -> x.puts(n, 0, 1, 1), BAD);
        e.beyond("SORT", Edges::laden, 0, 2, (x, n) -> x.puts(0, n, 1, 1), BAD);
        e.beyond("BOUND of a hole", Edges::laden, 1, 99, (x, n) -> x.puts(0, 0, n, 1), BAD);
        e.beyond("BOUND of a scale", Edges::laden, 1, 99, (x, n) -> x.puts(0, 1, n, 1), BAD);
        e.beyond("BOUND of a rim", Edges::laden, 0, 2, (x, n) -> x.puts(0, 2, n, 1), BAD);
        e.beyond("COST", Edges::laden, 1, 9, (x, n) -> x.puts(0, 0, 1, n), BAD);
        e.beyond("COST of a rim, at a JAM", Edges::jammed, 1, 9, (x, n) -> x.puts(3, 2, 0, n), BAD);
    }

    private static void putsFull(Edges e) {
        e.sentence(8, "BAD; FULL: 6.");
        e.refused("a seventh, ahead", Edges::full, x -> x.puts(0, 0, 1, 1), FULL);
        e.refused("a seventh, behind", Edges::full, x -> x.puts(6, 2, 2, 9), FULL);
        e.refused("BAD goes ahead, place", Edges::full, x -> x.puts(7, 0, 1, 1), BAD);
        e.refused("BAD goes ahead, SORT", Edges::full, x -> x.puts(0, 3, 1, 1), BAD);
        e.refused("BAD goes ahead, BOUND", Edges::full, x -> x.puts(0, 2, 3, 1), BAD);
        e.refused("BAD goes ahead, COST", Edges::full, x -> x.puts(0, 0, 1, 10), BAD);
        CoinTrack x = Edges.full();
        x.takes(5);
        e.is("room for a sixth again", x.puts(5, 0, 1, 1), 6);
    }

    // ---- promise 9

    private static void takes(Edges e) {
        e.sentence(9, "A TEST is taken out: how many are left.");
        CoinTrack x = Edges.told("hole 10 1; hole 20 2; scale 30 3; rim 0 4; hole 50 5; scale 60 6;");
        e.is("the last of six", x.takes(5), 5);
        e.is("the first of five", x.takes(0), 4);
        e.is("one between", x.takes(1), 3);
        e.is("the first of three", x.takes(0), 2);
        e.is("the last of two", x.takes(1), 1);
        e.is("the only one", x.takes(0), 0);
        e.is("none is left", x.count(1), 0);
        e.is("one BIN is left", x.bin(1, 0), BAD);
        e.is("none can be taken out any more", x.takes(0), BAD);
    }

    private static void takesMoves(Edges e) {
        e.sentence(9, "taken out (those behind move by one)");
        CoinTrack x = Edges.told("hole 10 1; hole 20 2; scale 30 3; rim 0 4; hole 50 5; scale 60 6;");
        x.takes(5);
        e.row("the last taken out: none moves", bounds(x), 10, 20, 30, 0, 50);
        x.takes(0);
        e.row("the first taken out: all move", bounds(x), 20, 30, 0, 50);
        x.takes(1);
        e.row("one between taken out: the one ahead stays", bounds(x), 20, 0, 50);
        e.is("SORT moves too", x.test(1, 0), 2);
        e.is("COST moves too", x.test(1, 2), 4);
    }

    private static void takesLeavesNothing(Edges e) {
        e.sentence(9, "A TEST is taken out: how many are left.");
        for (int test = 0; test <= 2; test++) {
            CoinTrack y = Edges.told("coin 50 60 1 9 7; coin 50 55 0 0 9; scale 55 3; scale 55 3; scale 55 3;");
            y.takes(test);
            CoinTrack twin = Edges.told("");
            Edges.typed(twin, "coin 50 60 1 9 7; coin 50 55 0 0 9; scale 55 3; scale 55 3;").tells();
            e.alike("nothing is left of TEST " + test, y, twin);
        }
    }

    private static void takesBeyond(Edges e) {
        e.sentence(9, "A TEST is taken out: how many are left. BAD.");
        e.beyond("no TESTS, TEST", CoinTrack::new, 0, -1, (x, n) -> x.takes(n), BAD);
        e.beyond("three TESTS, TEST", Edges::laden, 0, 2, (x, n) -> x.takes(n), BAD);
        e.beyond("three TESTS and a JAM, TEST", Edges::jammed, 0, 2, (x, n) -> x.takes(n), BAD);
        e.beyond("six TESTS, TEST", Edges::full, 0, 5, (x, n) -> x.takes(n), BAD);
    }

    // ---- promise 10

    private static void sets(Edges e) {
        e.sentence(10, "BOUND of a TEST becomes another one: what it was.");
        CoinTrack x = Edges.told("hole 1 1; scale 99 2; rim 0 3;");
        e.is("a hole, from the least", x.sets(0, 99), 1);
        e.is("a hole, from the greatest", x.sets(0, 1), 99);
        e.is("a scale, from the greatest", x.sets(1, 1), 99);
        e.is("a scale, from the least", x.sets(1, 99), 1);
        e.is("a rim, from the least", x.sets(2, 2), 0);
        e.is("a rim, from the greatest", x.sets(2, 0), 2);
        e.row("what they are", bounds(x), 1, 99, 0);
        e.is("another by 1", x.sets(0, 2), 1);
        e.row("no other BOUND changes", bounds(x), 2, 99, 0);
        e.is("SORT stays", x.test(0, 0), 0);
        e.is("COST stays", x.test(0, 2), 1);
    }

    private static void setsBeyond(Edges e) {
        e.sentence(10, "BAD; STATE: it is that.");
        e.beyond("no TESTS, TEST", CoinTrack::new, 0, -1, (x, n) -> x.sets(n, 1), BAD);
        e.beyond("three TESTS, TEST", Edges::laden, 0, 2, (x, n) -> x.sets(n, 1), BAD);
        e.beyond("six TESTS, TEST", Edges::full, 0, 5, (x, n) -> x.sets(n, 1), BAD);
        e.beyond("BOUND of a hole", Edges::laden, 1, 99, (x, n) -> x.sets(0, n), BAD);
        e.beyond("BOUND of a scale", Edges::jammed, 1, 99, (x, n) -> x.sets(1, n), BAD);
        e.beyond("BOUND of a rim", Edges::laden, 0, 2, (x, n) -> x.sets(2, n), BAD);
    }

    private static void setsTheSame(Edges e) {
        e.sentence(10, "BAD; STATE: it is that.");
        e.refused("a hole", Edges::laden, x -> x.sets(0, 20), STATE);
        e.refused("a scale, and the JAM stays", Edges::jammed, x -> x.sets(1, 35), STATE);
        e.refused("a rim", Edges::laden, x -> x.sets(2, 1), STATE);
        e.refused("the last of six", Edges::full, x -> x.sets(5, 49), STATE);
        CoinTrack least = Edges.told("hole 1 1; scale 99 1; rim 0 1;");
        e.is("the least", least.sets(0, 1), STATE);
        e.is("the greatest", least.sets(1, 99), STATE);
        e.is("a rim's least", least.sets(2, 0), STATE);
        e.is("what another TEST has is another", least.sets(0, 99), 1);
    }

    // ---- promise 11

    private static void adds(Edges e) {
        e.sentence(11, "A KIND is put behind the others (its SHARE 1): its number.");
        int[][] good = {{1, 1, 0, 0}, {99, 99, 2, 9}, {1, 10, 1, 9}, {99, 9, 0, 8}, {50, 2, 2, 1}, {7, 5, 1, 4}};
        CoinTrack x = new CoinTrack();
        for (int i = 0; i < good.length; i++) {
            e.is("KIND " + i, x.adds(good[i][0], good[i][1], good[i][2], good[i][3]), i);
            e.is("how many behind KIND " + i, x.count(0), i + 1);
        }
        for (int i = 0; i < good.length; i++) {
            for (int what = 0; what < 4; what++) {
                e.is("KIND " + i + ", " + what, x.kind(i, what), good[i][what]);
            }
            e.is("KIND " + i + ", SHARE", x.kind(i, 4), 1);
        }
        CoinTrack again = Edges.told("coin 1 1 0 0 77;");
        again.undo();
        again.adds(1, 1, 0, 0);
        e.is("SHARE where another one stood", again.kind(0, 4), 1);
    }

    private static void addsBeyond(Edges e) {
        e.sentence(11, "BAD; FULL: 6.");
        e.beyond("DIAMETER", Edges::laden, 1, 99, (x, n) -> x.adds(n, 50, 0, 0), BAD);
        e.beyond("WEIGHT", Edges::laden, 1, 99, (x, n) -> x.adds(1, n, 0, 0), BAD);
        e.beyond("EDGE", Edges::jammed, 0, 2, (x, n) -> x.adds(1, 1, n, 0), BAD);
        e.beyond("WEAR", Edges::laden, 0, 9, (x, n) -> x.adds(1, 99, 0, n), BAD);
        for (int weight = 1; weight <= 9; weight++) {
            int w = weight;
            e.refused("WEAR as much as WEIGHT " + w, Edges::laden, x -> x.adds(9, w, 0, w), BAD);
            e.is("WEAR one less than WEIGHT " + w, Edges.laden().adds(1, w, 0, w - 1), 2);
        }
        e.refused("WEAR 9 of WEIGHT 1", Edges::laden, x -> x.adds(99, 1, 0, 9), BAD);
    }

    private static void addsFull(Edges e) {
        e.sentence(11, "BAD; FULL: 6.");
        e.refused("a seventh", Edges::full, x -> x.adds(1, 1, 0, 0), FULL);
        e.refused("a seventh, the greatest", Edges::full, x -> x.adds(99, 99, 2, 9), FULL);
        e.refused("BAD goes ahead, DIAMETER", Edges::full, x -> x.adds(0, 1, 0, 0), BAD);
        e.refused("BAD goes ahead, WEIGHT", Edges::full, x -> x.adds(1, 100, 0, 0), BAD);
        e.refused("BAD goes ahead, EDGE", Edges::full, x -> x.adds(1, 1, 3, 0), BAD);
        e.refused("BAD goes ahead, WEAR", Edges::full, x -> x.adds(1, 1, 0, 1), BAD);
        CoinTrack x = Edges.told(Edges.times("coin1 1 0 0 0;", 5));
        e.is("the sixth", x.adds(1, 1, 0, 0), 5);
        x.undo();
        e.is("the sixth again", x.adds(2, 2, 0, 0), 5);
        e.is("no seventh", x.adds(2, 2, 0, 0), FULL);
    }

    private static void sixKindsAtMost(Edges e) {
        e.sentence(11, "(6 at most; none at first) of coins");
        for (int told = 0; told <= 6; told++) {
            CoinTrack x = Edges.told(Edges.times("coin1 1 0 0 0;", told));
            for (int kind = told; kind < 6; kind++) {
                e.is(told + " told, KIND " + kind, x.adds(9, 9, 0, 8), kind);
            }
            e.is(told + " told, a seventh", x.adds(9, 9, 0, 8), FULL);
            e.is(told + " told, six", x.count(0), 6);
            e.is(told + " told, no KIND 6", x.kind(6, 0), BAD);
        }
    }

    // ---- what deeds do to the bins

    private static void emptied(Edges e, String deed, CoinTrack x) {
        e.is(deed + ": no coins", x.count(3), 0);
        for (int bin = 0; bin <= x.count(1); bin++) {
            e.is(deed + ": BIN " + bin, x.bin(bin, 1), 0);
        }
        e.is(deed + ": no JAM", x.track(3), NONE);
    }

    private static void binsEmptiedByDeeds(Edges e) {
        String words = "by all of these but DROPPED, FREED, EMPTIED and a KIND put there, all BINS have none, and there is no JAM.";
        CoinTrack x = Edges.jammed();
        e.sentence(4, words);
        e.is("a text told", x.tells(), 1);
        emptied(e, "a text told", x);
        x = Edges.jammed();
        e.sentence(8, words);
        e.is("a TEST put in", x.puts(3, 0, 1, 1), 4);
        emptied(e, "a TEST put in behind all", x);
        e.is("ROOM stays", x.count(2), 2);
        x = Edges.jammed();
        e.sentence(9, words);
        e.is("a TEST taken out", x.takes(2), 2);
        emptied(e, "a TEST taken out", x);
        x = Edges.jammed();
        e.sentence(10, words);
        e.is("a BOUND made another one", x.sets(2, 2), 1);
        emptied(e, "a BOUND made another one", x);
        e.is("KINDS stay", x.count(0), 2);
    }

    private static void binsKeptByDeeds(Edges e) {
        e.sentence(11, "by all of these but DROPPED, FREED, EMPTIED and a KIND put there, all BINS have none");
        CoinTrack x = Edges.jammed();
        e.is("a KIND put there", x.adds(1, 1, 0, 0), 2);
        e.is("the coins stay", x.count(3), 3);
        e.is("the JAM stays", x.track(3), 0);
        e.sentence(6, "by all of these but DROPPED, FREED, EMPTIED and a KIND put there, all BINS have none");
        e.is("FREED", x.frees(), 0);
        e.is("the coins stay then", x.count(3), 3);
    }
}
