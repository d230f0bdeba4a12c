/** Boundary cases of IMAGES and of what is counted (promises 23 to 25). */
final class ImageEdges {
    private static final int BAD = Edges.BAD, STATE = Edges.STATE, FULL = Edges.FULL, NONE = Edges.NONE;

    static void lookAt(Edges e) {
        keepBeyond(e);
        keepChangesNothing(e);
        keepsHowMany(e);
        keptAgain(e);
        imageIsNotChanged(e);
        backBeyond(e);
        backToNone(e);
        backAsKept(e);
        nothingElseIsKept(e);
        nothingUndoneBehindBack(e);
        toldImagesStay(e);
        countBeyond(e);
        countLeast(e);
        countGreatest(e);
        countCoins(e);
    }

    // ---- promise 23

    private static void keepBeyond(Edges e) {
        e.sentence(23, "An IMAGE is kept: how many TESTS. BAD.");
        e.beyondInEach("IMAGE", 0, 1, (x, n) -> x.keep(n), BAD);
    }

    private static void keepChangesNothing(Edges e) {
        e.sentence(23, "IMAGES 0, 1 keep all that 1 and 2 tell but THE TEXT; nothing else");
        CoinTrack x = Edges.jammed();
        CoinTrack twin = Edges.jammed();
        e.is("kept", x.keep(1), 3);
        for (int what = 0; what <= 6; what++) {
            e.is("count(" + what + ") stays", x.count(what), twin.count(what));
        }
        e.is("the JAM stays", x.track(3), 0);
        e.is("what is UNDONE", x.undo(), 4);
    }

    private static void keepsHowMany(Edges e) {
        e.sentence(23, "An IMAGE is kept: how many TESTS.");
        for (int image = 0; image <= 1; image++) {
            CoinTrack x = new CoinTrack();
            e.is("no TESTS, IMAGE " + image, x.keep(image), 0);
            for (int tests = 1; tests <= 6; tests++) {
                x.puts(0, 0, tests, 1);
                e.is(tests + " TESTS, IMAGE " + image, x.keep(image), tests);
            }
        }
    }

    private static void keptAgain(Edges e) {
        e.sentence(23, "An IMAGE is kept: how many TESTS.");
        CoinTrack x = Edges.told("hole 1 1;");
        x.keep(0);
        x.keep(1);
        x.sets(0, 2);
        x.keep(0);
        x.sets(0, 3);
        e.is("kept again: the later", x.back(0), 1);
        e.is("its BOUND", x.test(0, 1), 2);
        e.is("the other IMAGE", x.back(1), 1);
        e.is("the other one's BOUND", x.test(0, 1), 1);
    }

    private static void imageIsNotChanged(Edges e) {
        e.sentence(23, "An IMAGE is kept: how many TESTS.");
        CoinTrack x = Edges.told("coin 9 9 0 0 1; rim 1 1; room 1;");
        x.drops(0, 0);
        x.keep(0);
        x.drops(0, 0);
        x.sets(0, 2);
        x.adds(1, 1, 1, 0);
        for (int round = 0; round < 3; round++) {
            e.is("back, round " + round, x.back(0), 1);
            e.is("BOUND, round " + round, x.test(0, 1), 1);
            e.is("KINDS, round " + round, x.count(0), 1);
            e.is("coins, round " + round, x.count(3), 1);
            e.is("no JAM, round " + round, x.track(3), NONE);
            x.empties(1);
            x.takes(0);
            x.adds(2, 2, 2, 0);
            x.undo();
        }
    }

    // ---- promise 24

    private static void backBeyond(Edges e) {
        e.sentence(24, "BAD; STATE: none was kept.");
        e.beyondInEach("IMAGE", 0, 1, (x, n) -> x.back(n), BAD);
    }

    private static void backToNone(Edges e) {
        e.sentence(24, "BAD; STATE: none was kept.");
        e.refused("IMAGE 0 of a new one", CoinTrack::new, x -> x.back(0), STATE);
        e.refused("IMAGE 1 of a new one", CoinTrack::new, x -> x.back(1), STATE);
        e.refused("the other one was kept", Edges::laden, x -> x.back(1), STATE);
        e.refused("at a JAM", Edges::jammed, x -> x.back(1), STATE);
        e.refused("BAD goes ahead", CoinTrack::new, x -> x.back(2), BAD);
        CoinTrack x = new CoinTrack();
        x.keep(1);
        e.is("IMAGE 0, when 1 was kept", x.back(0), STATE);
        e.is("IMAGE 1 of nothing", x.back(1), 0);
    }

    private static void backAsKept(Edges e) {
        e.sentence(24, "All of that becomes as an IMAGE has it: how many TESTS.");
        for (int i = 0; i <= 1; i++) {
            int image = i;
            CoinTrack x = Edges.jammed();
            x.keep(image);
            x.clear();
            Edges.typed(x, "room 9;").tells();
            e.is("back to three TESTS, IMAGE " + image, x.back(image), 3);
            CoinTrack twin = Edges.jammed();
            for (int kind = 0; kind < 2; kind++) {
                for (int what = 0; what < 5; what++) {
                    e.is("KIND " + kind + ", " + what, x.kind(kind, what), twin.kind(kind, what));
                }
            }
            for (int test = 0; test < 3; test++) {
                for (int what = 0; what < 3; what++) {
                    e.is("TEST " + test + ", " + what, x.test(test, what), twin.test(test, what));
                }
            }
            for (int bin = 0; bin <= 3; bin++) {
                e.is("BIN " + bin, x.bin(bin, 1), twin.bin(bin, 1));
            }
            e.is("no KIND more", x.count(0), 2);
            e.is("ROOM", x.count(2), 2);
            e.is("the JAM", x.track(3), 0);
            e.is("it refuses a coin", x.drops(0, 0), STATE);
        }
        CoinTrack nothing = new CoinTrack();
        nothing.keep(0);
        Edges.typed(nothing, "coin 1 1 0 0 0; rim 1 1; room 1;").tells();
        nothing.drops(0, 0);
        nothing.drops(0, 0);
        e.is("back to nothing", nothing.back(0), 0);
        e.is("no KINDS", nothing.count(0), 0);
        e.is("ROOM as at first", nothing.count(2), 20);
        e.is("no coins", nothing.count(3), 0);
        e.is("no JAM", nothing.track(3), NONE);
        e.alike("all that can be asked", nothing, new CoinTrack());
    }

    private static void nothingElseIsKept(Edges e) {
        e.sentence(24, "IMAGES 0, 1 keep all that 1 and 2 tell but THE TEXT; nothing else");
        CoinTrack x = Edges.laden();
        x.keep(1);
        x.sees(0, 0, 0);
        x.type(' ');
        e.is("back", x.back(0), 3);
        e.is("THE TEXT stays", x.count(5), 8);
        e.is("what was SEEN stays", x.count(4), 2);
        x.clear();
        x.forget();
        e.is("back again", x.back(0), 3);
        e.is("no TEXT comes back", x.count(5), 0);
        e.is("nothing SEEN comes back", x.count(4), 0);
        e.is("the other IMAGE stays", x.back(1), 3);
        e.is("with its coins", x.count(3), 2);
    }

    private static void nothingUndoneBehindBack(Edges e) {
        e.sentence(24, "(nothing can be UNDONE behind back())");
        CoinTrack x = Edges.full();
        e.is("six ahead", x.count(6), 6);
        e.is("back", x.back(1), 6);
        e.is("none", x.count(6), 0);
        e.is("refused", x.undo(), STATE);
        e.is("a deed behind it", x.sets(0, 50), 9);
        e.is("is UNDONE", x.undo(), 0);
        e.is("and no more", x.undo(), STATE);
        e.is("its BOUND", x.test(0, 1), 9);
        for (int bound = 1; bound <= 7; bound++) {
            x.sets(0, bound);
        }
        e.is("six again", x.count(6), 6);
        CoinTrack refused = Edges.full();
        e.is("back() BAD", refused.back(2), BAD);
        e.is("is no back()", refused.undo(), 5);
        CoinTrack none = Edges.laden();
        e.is("back() STATE", none.back(1), STATE);
        e.is("is no back() either", none.undo(), 2);
    }

    private static void toldImagesStay(Edges e) {
        e.sentence(24, "(A text told: what was SEEN, IMAGES stay.)");
        CoinTrack x = Edges.full();
        e.is("told", x.tells(), 25);
        e.is("what was SEEN stays", x.count(4), 6);
        e.is("it is full still", x.sees(0, 0, 0), FULL);
        e.is("IMAGE 0 stays", x.back(0), 5);
        e.is("its KINDS", x.count(0), 3);
        e.is("IMAGE 1 stays", x.back(1), 6);
        e.is("the KINDS of IMAGE 1", x.count(0), 6);
    }

    // ---- promise 25

    private static void countBeyond(Edges e) {
        e.sentence(25, "6 how many may be UNDONE. BAD.");
        e.beyondInEach("what", 0, 6, (x, n) -> x.count(n), BAD);
    }

    private static void countLeast(Edges e) {
        e.sentence(25, "0 KINDS, 1 TESTS, 2 ROOM, 3 coins in all BINS, 4 SEEN, 5 letters of THE TEXT, 6 how many may be UNDONE.");
        CoinTrack x = new CoinTrack();
        int[] least = {0, 0, 20, 0, 0, 0, 0};
        for (int what = 0; what < least.length; what++) {
            e.is("new, " + what, x.count(what), least[what]);
        }
        e.is("the least ROOM", Edges.told("room 1;").count(2), 1);
    }

    private static void countGreatest(Edges e) {
        e.sentence(25, "0 KINDS, 1 TESTS, 2 ROOM, 3 coins in all BINS, 4 SEEN, 5 letters of THE TEXT, 6 how many may be UNDONE.");
        CoinTrack x = Edges.full();
        int[] greatest = {6, 6, 1, 2, 6, 150, 6};
        for (int what = 0; what < greatest.length; what++) {
            e.is("full, " + what, x.count(what), greatest[what]);
        }
        e.is("the greatest ROOM", Edges.told("room 99;").count(2), 99);
    }

    private static void countCoins(Edges e) {
        e.sentence(25, "3 coins in all BINS");
        CoinTrack x = Edges.told("coin9 1 0 0 0;coin9 2 0 0 0;coin9 9 0 7 0;scale1 1;scale2 1;scale3 1;scale4 1;scale5 1;scale6 1;");
        x.drops(0, 0);
        x.drops(1, 0);
        for (int worn = 0; worn <= 6; worn++) {
            x.drops(2, worn);
        }
        e.is("in all seven BINS", x.count(3), 9);
        for (int bin = 0; bin <= 6; bin++) {
            e.is("BIN " + bin, x.bin(bin, 1), bin == 6 ? 3 : 1);
        }
        x.empties(6);
        e.is("the last one EMPTIED", x.count(3), 6);
        x.empties(0);
        e.is("the first one EMPTIED", x.count(3), 5);
        x.takes(5);
        e.is("a TEST taken out", x.count(3), 0);
    }
}
