/** Boundary cases of THE TEXT's form, and of the place of its FAULT (promise 4). */
final class FaultEdges {
    static void lookAt(Edges e) {
        blanks(e);
        notBlanks(e);
        blanksNeeded(e);
        endOfItems(e);
        numbersOfItems(e);
        words(e);
        letters(e);
        firstToken(e);
        seventhCoin(e);
        seventhTest(e);
        numbersBeyond(e);
        unknownWords(e);
        otherLetters(e);
        longNumbers(e);
        zeroAhead(e);
        endsTooEarly(e);
    }

    private static void good(Edges e, String text, int items) {
        e.is("'" + text + "'", Edges.typed(new CoinTrack(), text).tells(), items);
    }

    /** The text is told over a track that has something of all: the fault is there, and nothing changes. */
    private static void fault(Edges e, String text, int place) {
        Edges.State state = () -> {
            CoinTrack x = Edges.laden();
            x.clear();
            return Edges.typed(x, text);
        };
        e.refused("'" + text + "'", state, x -> x.tells(), -10 - place);
    }

    private static void blanks(Edges e) {
        e.sentence(4, "blanks (32) may stand ahead of, between and behind TOKENS");
        good(e, "   room 5;", 1);
        good(e, "room   5   ;", 1);
        good(e, "room 5;   ", 1);
        good(e, "  coin   1  1  0  0  0  ;   hole  1  1  ;  ", 2);
        good(e, " ", 0);
        fault(e, "ro om 5;", 0);
        fault(e, "room 1 2;", 7);
    }

    private static void notBlanks(Edges e) {
        e.sentence(4, "blanks (32)");
        for (int letter : new int[] {0, 9, 10, 13, 31, 33, 95, 127, 160, 255}) {
            fault(e, "room 5;" + (char) letter, 7);
            fault(e, "room" + (char) letter + "5;", 4);
        }
    }

    private static void blanksNeeded(Edges e) {
        e.sentence(4, "(needed between two NUMBERS alone)");
        good(e, "coin1 1 0 0 0;hole1 1;scale1 1;rim1 1;room1;", 5);
        fault(e, "hole 11;", 7);
        fault(e, "rim 11;", 4);
        fault(e, "coin 1 1 000;", 9);
    }

    private static void endOfItems(Edges e) {
        e.sentence(4, "each ended by ;");
        fault(e, ";", 0);
        fault(e, "room 5;;", 7);
        fault(e, "room 5; ;", 8);
        fault(e, "room 5 room 6;", 7);
        fault(e, "room 5,", 6);
        fault(e, "room 5:", 6);
    }

    private static void numbersOfItems(Edges e) {
        e.sentence(4, "coin D W E R S (the next KIND: DIAMETER, WEIGHT, EDGE, WEAR, SHARE) ; hole N C, scale N C, rim N C "
                + "(the next TEST: BOUND, COST) ; room N");
        fault(e, "coin;", 4);
        fault(e, "coin 1;", 6);
        fault(e, "coin 1 1;", 8);
        fault(e, "coin 1 1 0;", 10);
        fault(e, "coin 1 1 0 0;", 12);
        fault(e, "coin 1 1 0 0 0 0;", 15);
        for (String word : new String[] {"hole", "scale", "rim"}) {
            int n = word.length();
            fault(e, word + ";", n);
            fault(e, word + " 1;", n + 2);
            fault(e, word + " 1 1 1;", n + 5);
        }
        fault(e, "room;", 4);
        fault(e, "room 5 5;", 7);
        CoinTrack x = Edges.told("rim 2 3;coin 9 8 2 7 6;hole 4 5;coin 1 2 0 1 3;");
        e.is("the next KIND is 1", x.kind(1, 1), 2);
        e.is("the next TEST is 1", x.test(1, 1), 4);
        e.is("two KINDS", x.count(0), 2);
        e.is("two TESTS", x.count(1), 2);
    }

    private static void words(Edges e) {
        e.sentence(4, "TOKENS are words (rows of letters a to z: coin, hole, scale, rim, room), NUMBERS (rows of figures) and ;");
        fault(e, "5;", 0);
        fault(e, "room room;", 5);
        fault(e, "room five;", 5);
        fault(e, "roomroom 5;", 0);
        fault(e, "coin hole 1 1;", 5);
        fault(e, "room 5 x;", 7);
        fault(e, "room 5x;", 6);
    }

    private static void letters(Edges e) {
        e.sentence(4, "rows of letters a to z");
        fault(e, "`room 5;", 0);
        fault(e, "Room 5;", 0);
        fault(e, "rooM 5;", 0);
        for (char beside : new char[] {'`', '{', '@', 'A', 'M', 'Z', '[', (char) ('m' + 128)}) {
            fault(e, "room" + beside + "5;", 4);
            fault(e, "room 5" + beside + ";", 6);
        }
        fault(e, "room 5;Z", 7);
        fault(e, "room 5;a", 7);
        fault(e, "room 5;z", 7);
        fault(e, "room /;", 5);
        fault(e, "room 5/;", 6);
        fault(e, "room :;", 5);
        good(e, "room 9;", 1);
        good(e, "room 10;", 1);
    }

    private static void firstToken(Edges e) {
        e.sentence(4, "FAULT: the place of the first letter of the first TOKEN that can't stand there");
        fault(e, "    xyz", 4);
        fault(e, "room 0 xyz", 5);
        fault(e, "room 5 123 $", 7);
        fault(e, "$ room 0;", 0);
        fault(e, "room 99 99;", 8);
        fault(e, "room 5; hole 50 10;", 16);
    }

    private static void seventhCoin(Edges e) {
        e.sentence(4, "(a seventh coin, a seventh TEST at its word, a NUMBER beyond what it may be, too)");
        String six = Edges.times("coin1 1 0 0 0;", 6);
        good(e, six, 6);
        good(e, six + "hole1 1;", 7);
        fault(e, six + "coin", 84);
        fault(e, six + "  coin 1 1 0 0 0;", 86);
        fault(e, six + "coin 0;", 84);
        fault(e, six + "room5;coin1 1 0 0 0;", 90);
        e.is("six KINDS", Edges.told(six).count(0), 6);
    }

    private static void seventhTest(Edges e) {
        e.sentence(4, "(a seventh coin, a seventh TEST at its word, a NUMBER beyond what it may be, too)");
        String six = Edges.times("rim0 1;hole1 1;scale1 1;", 2);
        good(e, six, 6);
        good(e, six + "coin1 1 0 0 0;room 1;", 8);
        for (String word : new String[] {"hole", "scale", "rim"}) {
            fault(e, six + word, 48);
            fault(e, six + " " + word + " 1 1;", 49);
            fault(e, six + word + " 0 0;", 48);
            fault(e, Edges.times(word + "1 1;", 6) + word + "1 1;", 6 * word.length() + 24);
        }
        e.is("six TESTS", Edges.told(six).count(1), 6);
    }

    private static void numbersBeyond(Edges e) {
        e.sentence(4, "a NUMBER beyond what it may be, too)");
        fault(e, "coin 0 1 0 0 0;", 5);
        fault(e, "coin 1 0 0 0 0;", 7);
        fault(e, "coin 1 1 3 0 0;", 9);
        fault(e, "coin 1 1 99 0 0;", 9);
        fault(e, "coin 1 99 0 10 0;", 12);
        fault(e, "coin 1 5 0 5 0;", 11);
        fault(e, "hole 0 1;", 5);
        fault(e, "scale 0 1;", 6);
        fault(e, "rim 3 1;", 4);
        fault(e, "hole 1 0;", 7);
        fault(e, "scale 1 10;", 8);
        fault(e, "rim 1 10;", 6);
        fault(e, "room 0;", 5);
    }

    private static void unknownWords(Edges e) {
        e.sentence(4, "of a word that is none of these, of any other letter (each is a TOKEN by itself)");
        for (String word : new String[] {"coi", "coins", "oin", "hol", "holes", "scal", "scales", "ri", "rims", "roo",
            "rooms", "cone", "hope", "scaly", "rum", "join", "mole", "stale", "dim", "doom", "a", "z"}) {
            fault(e, " " + word + " 1 1;", 1);
        }
    }

    private static void otherLetters(Edges e) {
        e.sentence(4, "of any other letter (each is a TOKEN by itself)");
        fault(e, "$$", 0);
        fault(e, "room$5;", 4);
        fault(e, "room -5;", 5);
        fault(e, "room +5;", 5);
        fault(e, "room 5.0;", 6);
        fault(e, "room 5 ;$", 8);
        fault(e, "" + (char) 0, 0);
        fault(e, "room 5" + (char) 255, 6);
    }

    private static void longNumbers(Edges e) {
        e.sentence(4, "a NUMBER of more than two figures or with a 0 ahead of another one, that TOKEN's");
        good(e, "room 99;", 1);
        fault(e, "room 100;", 5);
        fault(e, "room 999;", 5);
        fault(e, "rim 1 111;", 6);
        // These would be 1, if a number wrapped around.
        fault(e, "room 257;", 5);
        fault(e, "room 65537;", 5);
        fault(e, "room 4294967297;", 5);
        fault(e, "room 18446744073709551617;", 5);
        fault(e, "room 5 555;", 7);
        fault(e, "555", 0);
    }

    private static void zeroAhead(Edges e) {
        e.sentence(4, "with a 0 ahead of another one, that TOKEN's");
        good(e, "rim 0 1;", 1);
        good(e, "room 10;", 1);
        fault(e, "room 05;", 5);
        fault(e, "rim 00 1;", 4);
        fault(e, "rim 01 1;", 4);
        fault(e, "room 005;", 5);
        fault(e, "coin 1 1 0 00 0;", 11);
        fault(e, "room 5;00", 7);
    }

    private static void endsTooEarly(Edges e) {
        e.sentence(4, "the text's length, if it ends too early.");
        String item = "coin 10 20 0 9 99;";
        for (int end : new int[] {4, 5, 7, 8, 10, 12, 14, 17}) {
            fault(e, item.substring(0, end), end);
            fault(e, "room 5;" + item.substring(0, end) + "  ", 7 + end + 2);
        }
        fault(e, "room", 4);
        fault(e, "hole 1", 6);
        fault(e, "scale 1 1", 9);
        fault(e, "rim", 3);
        fault(e, Edges.times("room1;", 24) + "room10", 150);
        fault(e, "room 5" + Edges.times(" ", 144), 150);
    }
}
