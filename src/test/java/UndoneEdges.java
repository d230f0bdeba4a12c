/** Boundary cases of what is UNDONE (promise 12). */
final class UndoneEdges {
    private static final int BAD = Edges.BAD, STATE = Edges.STATE, FULL = Edges.FULL, NONE = Edges.NONE;

    static void lookAt(Edges e) {
        nothingToUndo(e);
        howManyMore(e);
        sixAreKnown(e);
        roundAndRound(e);
        refusedIsNotUndone(e);
        otherCallsAreNotUndone(e);
        eachDeedUndone(e);
        textStays(e);
        seenAndImagesStay(e);
        undoneIsGone(e);
    }

    private static void nothingToUndo(Edges e) {
        e.sentence(12, "UNDONE: how many more may be. STATE: none.");
        e.refused("new", CoinTrack::new, x -> x.undo(), STATE);
        Edges.State allUndone = () -> {
            CoinTrack x = Edges.laden();
            x.undo();
            x.undo();
            x.undo();
            return x;
        };
        e.refused("all UNDONE", allUndone, x -> x.undo(), STATE);
        Edges.State sixUndone = () -> {
            CoinTrack x = Edges.full();
            for (int i = 0; i < 6; i++) {
                x.undo();
            }
            return x;
        };
        e.refused("six UNDONE, the seventh is lost", sixUndone, x -> x.undo(), STATE);
        Edges.State back = () -> {
            CoinTrack x = Edges.laden();
            x.back(0);
            return x;
        };
        e.refused("behind back()", back, x -> x.undo(), STATE);
    }

    private static void howManyMore(Edges e) {
        e.sentence(12, "UNDONE: how many more may be.");
        for (int deeds = 1; deeds <= 6; deeds++) {
            CoinTrack x = new CoinTrack();
            for (int i = 0; i < deeds; i++) {
                x.puts(i, 0, i + 1, 1);
            }
            for (int more = deeds - 1; more >= 0; more--) {
                e.is("of " + deeds + ", " + more + " more", x.undo(), more);
                e.is("of " + deeds + ", counted", x.count(6), more);
                e.is("of " + deeds + ", TESTS", x.count(1), more);
            }
            e.is("of " + deeds + ", no more", x.undo(), STATE);
        }
    }

    private static void sixAreKnown(Edges e) {
        e.sentence(12, "(6 are known, older ones are lost)");
        CoinTrack x = new CoinTrack();
        x.puts(0, 0, 1, 1);
        for (int bound = 2; bound <= 7; bound++) {
            x.sets(0, bound);
            e.is("known behind " + bound, x.count(6), Math.min(6, bound));
        }
        for (int bound = 6; bound >= 1; bound--) {
            e.is("UNDONE to " + bound, x.undo(), bound - 1);
            e.is("BOUND " + bound, x.test(0, 1), bound);
        }
        e.is("the oldest is lost", x.undo(), STATE);
        e.is("its TEST stays", x.count(1), 1);
    }

    private static void roundAndRound(Edges e) {
        e.sentence(12, "(6 are known, older ones are lost)");
        for (int deeds = 1; deeds <= 40; deeds++) {
            CoinTrack x = Edges.told("rim 1 1; hole 50 1;");
            for (int bound = 51; bound < 51 + deeds; bound++) {
                x.sets(1, bound);
            }
            int known = Math.min(6, deeds);
            for (int i = 1; i <= known; i++) {
                x.undo();
                e.is(deeds + " deeds, " + i + " UNDONE", x.test(1, 1), 50 + deeds - i);
            }
            // Of up to five deeds the text that was told ahead of them is known too.
            e.is(deeds + " deeds, one more", x.undo(), deeds < 6 ? 0 : STATE);
        }
        CoinTrack x = Edges.told("hole 1 1;");
        for (int round = 0; round < 50; round++) {
            x.sets(0, 2);
            x.sets(0, 3);
            e.is("round " + round, x.undo(), 2);
            e.is("round " + round + ", BOUND", x.test(0, 1), 2);
            e.is("round " + round + ", first", x.undo(), 1);
            e.is("round " + round + ", BOUND at first", x.test(0, 1), 1);
        }
    }

    private static void refusedIsNotUndone(Edges e) {
        e.sentence(12, "UNDONE: the latest tells(), drops(), frees(), empties(), puts(), takes(), sets(), adds() that was not refused");
        CoinTrack x = Edges.told("coin 9 9 0 0 1; rim 1 1; room 1;");
        x.drops(0, 0);
        e.is("drops() BAD", x.drops(1, 0), BAD);
        e.is("frees() STATE", x.frees(), STATE);
        e.is("empties() BAD", x.empties(2), BAD);
        e.is("empties() STATE", x.empties(0), STATE);
        e.is("puts() BAD", x.puts(2, 0, 1, 1), BAD);
        e.is("takes() BAD", x.takes(1), BAD);
        e.is("sets() BAD", x.sets(0, 3), BAD);
        e.is("sets() STATE", x.sets(0, 1), STATE);
        e.is("adds() BAD", x.adds(0, 1, 0, 0), BAD);
        x.type('x');
        e.is("tells() with a FAULT", x.tells(), -10);
        e.is("two are known", x.count(6), 2);
        e.is("drops() is UNDONE", x.undo(), 1);
        e.is("no coin", x.count(3), 0);
        CoinTrack full = Edges.full();
        e.is("puts() FULL", full.puts(0, 0, 1, 1), FULL);
        e.is("adds() FULL", full.adds(1, 1, 0, 0), FULL);
        e.is("drops() makes a JAM", full.drops(2, 0), 103);
        e.is("drops() STATE", full.drops(2, 0), STATE);
        e.is("the JAM is UNDONE", full.undo(), 5);
        e.is("no JAM", full.track(3), NONE);
    }

    private static void otherCallsAreNotUndone(Edges e) {
        e.sentence(12, "UNDONE: the latest tells(), drops(), frees(), empties(), puts(), takes(), sets(), adds() that was not refused");
        CoinTrack x = Edges.laden();
        x.type('x');
        x.clear();
        x.sees(0, 0, 0);
        x.forget();
        x.keep(1);
        x.order(-1);
        x.track(4);
        x.look();
        e.is("as many as ahead of them", x.count(6), 3);
        e.is("drops() is the latest", x.undo(), 2);
        e.is("its coin is gone", x.bin(1, 1), 0);
        e.is("the other coin is there", x.bin(0, 1), 1);
    }

    private static void undoes(Edges e, String deed, Edges.State state, Edges.Call call) {
        int known = state.make().count(6);
        e.leaves(deed + ", UNDONE", state, x -> {
            call.on(x);
            e.is(deed + " is known", x.count(6), known + 1);
            return x.undo();
        }, known, state);
    }

    private static void eachDeedUndone(Edges e) {
        e.sentence(12, "all that 1 and 2 tell but THE TEXT is as ahead of it");
        undoes(e, "drops() into a BIN", Edges::laden, x -> x.drops(1, 0));
        undoes(e, "drops() of the coin that makes a BIN full", Edges::laden, x -> x.drops(0, 0));
        Edges.State twoCoins = () -> {
            CoinTrack x = Edges.laden();
            x.drops(0, 0);
            return x;
        };
        undoes(e, "drops() that makes a JAM", twoCoins, x -> x.drops(0, 0));
        undoes(e, "frees()", Edges::jammed, x -> x.frees());
        undoes(e, "empties() at a JAM", Edges::jammed, x -> x.empties(0));
        undoes(e, "puts() ahead", Edges::jammed, x -> x.puts(0, 0, 99, 9));
        undoes(e, "puts() behind", Edges::jammed, x -> x.puts(3, 2, 0, 1));
        undoes(e, "takes() the first", Edges::jammed, x -> x.takes(0));
        undoes(e, "takes() the last", Edges::jammed, x -> x.takes(2));
        undoes(e, "sets()", Edges::jammed, x -> x.sets(1, 99));
        undoes(e, "adds()", Edges::jammed, x -> x.adds(9, 9, 2, 8));
        Edges.State withoutText = () -> {
            CoinTrack x = Edges.jammed();
            x.clear();
            return x;
        };
        undoes(e, "tells() of no ITEMS", withoutText, x -> x.tells());
        undoes(e, "tells() of some", withoutText,
                x -> Edges.typed(x, "coin 1 1 1 0 1;coin 2 2 2 1 2;coin3 3 0 0 3;rim 2 2;room 99;").tells());
        undoes(e, "adds() to none", CoinTrack::new, x -> x.adds(9, 9, 2, 8));
        undoes(e, "puts() to none", CoinTrack::new, x -> x.puts(0, 1, 1, 1));
        undoes(e, "tells() to none", CoinTrack::new, x -> x.tells());
    }

    private static void textStays(Edges e) {
        e.sentence(12, "all that 1 and 2 tell but THE TEXT is as ahead of it");
        CoinTrack x = Edges.laden();
        e.is("told", x.tells(), 1);
        e.is("tells() UNDONE", x.undo(), 3);
        e.is("THE TEXT stays empty", x.count(5), 0);
        Edges.typed(x, "room 8;");
        e.is("drops() UNDONE", x.undo(), 2);
        e.is("THE TEXT stays", x.count(5), 7);
        e.is("it is told", x.tells(), 1);
        e.is("as typed", x.count(2), 8);
    }

    private static void seenAndImagesStay(Edges e) {
        e.sentence(12, "all that 1 and 2 tell but THE TEXT is as ahead of it");
        CoinTrack x = Edges.laden();
        x.adds(1, 1, 1, 0);
        x.sees(0, 0, 0);
        x.keep(1);
        e.is("adds() UNDONE", x.undo(), 3);
        e.is("what was SEEN stays", x.count(4), 2);
        e.is("the IMAGE stays", x.back(1), 3);
        e.is("with what was UNDONE", x.count(0), 3);
    }

    private static void undoneIsGone(Edges e) {
        e.sentence(12, "UNDONE: how many more may be.");
        CoinTrack x = Edges.told("hole 1 1;");
        x.sets(0, 2);
        x.sets(0, 3);
        e.is("UNDONE", x.undo(), 2);
        e.is("the one ahead of it, not it again", x.undo(), 1);
        e.is("BOUND", x.test(0, 1), 1);
        e.is("another deed", x.sets(0, 9), 1);
        e.is("it is the latest", x.undo(), 1);
        e.is("BOUND again", x.test(0, 1), 1);
        e.is("the text UNDONE", x.undo(), 0);
        e.is("no TESTS", x.count(1), 0);
        e.is("none any more", x.undo(), STATE);
    }
}
