/** For each promise of the document: ordinary inputs, the edges that it names, wrong inputs. */
public final class PromiseTest {
    private static final int BAD = -1, STATE = -2, FULL = -3, NONE = -9, NO = -1000000;
    private static final int LEAST = Integer.MIN_VALUE, MOST = Integer.MAX_VALUE;

    private static final Due due = new Due();

    public static void main(String[] args) {
        newObject();
        type();
        clear();
        tells();
        tellsFaults();
        tellsLimits();
        drops();
        frees();
        empties();
        puts();
        takes();
        sets();
        adds();
        undo();
        undoEachDeed();
        kind();
        bears();
        test();
        bin();
        coin();
        track();
        fewest();
        order();
        planningWithWornCoins();
        sees();
        forget();
        suspects();
        look();
        keepAndBack();
        count();
        refusedChangesNothing();
        due.end();
    }

    private static CoinTrack told(String text) {
        CoinTrack x = new CoinTrack();
        typed(x, text);
        if (x.tells() < 0) {
            due.is("a text that should be told: " + text, -1, 0);
        }
        return x;
    }

    private static void typed(CoinTrack x, String text) {
        for (int i = 0; i < text.length(); i++) {
            x.type(text.charAt(i));
        }
    }

    private static int answerTo(String text) {
        CoinTrack x = new CoinTrack();
        typed(x, text);
        return x.tells();
    }

    private static void fault(String text, int place) {
        due.is("tells() of '" + text + "'", answerTo(text), -10 - place);
        CoinTrack x = told("coin 5 6 1 2 3; rim 1 4; room 7;");
        typed(x, text);
        x.tells();
        due.is("letters behind the fault of '" + text + "'", x.count(5), text.length());
        due.is("kinds behind the fault of '" + text + "'", x.count(0), 1);
        due.is("tests behind the fault of '" + text + "'", x.count(1), 1);
        due.is("room behind the fault of '" + text + "'", x.count(2), 7);
        due.is("undo behind the fault of '" + text + "'", x.count(6), 1);
    }

    private static String times(String text, int n) {
        StringBuilder all = new StringBuilder();
        for (int i = 0; i < n; i++) {
            all.append(text);
        }
        return all.toString();
    }

    private static void newObject() {
        CoinTrack x = new CoinTrack();
        due.is("1 kinds", x.count(0), 0);
        due.is("1 tests", x.count(1), 0);
        due.is("1 room", x.count(2), 20);
        due.is("1 coins", x.count(3), 0);
        due.is("1 seen", x.count(4), 0);
        due.is("1 letters", x.count(5), 0);
        due.is("1 undone", x.count(6), 0);
        due.is("1 no jam", x.track(3), NONE);
        due.is("1 no image 0", x.back(0), STATE);
        due.is("1 no image 1", x.back(1), STATE);
        due.is("1 nothing to undo", x.undo(), STATE);
        due.is("1 one bin", x.bin(0, 1), 0);
        due.is("1 one bin alone", x.bin(1, 1), BAD);
    }

    private static void type() {
        CoinTrack x = new CoinTrack();
        due.is("2 below", x.type(-1), BAD);
        due.is("2 above", x.type(256), BAD);
        due.is("2 least", x.type(LEAST), BAD);
        due.is("2 most", x.type(MOST), BAD);
        due.is("2 first", x.type(0), 1);
        due.is("2 last", x.type(255), 2);
        for (int i = 3; i <= 150; i++) {
            due.is("2 letter " + i, x.type(32), i);
        }
        due.is("2 full", x.type(32), FULL);
        due.is("2 bad goes ahead of full", x.type(256), BAD);
        due.is("2 full changes nothing", x.count(5), 150);
    }

    private static void clear() {
        CoinTrack x = new CoinTrack();
        due.is("3 none", x.clear(), 0);
        typed(x, "coin");
        due.is("3 four", x.clear(), 4);
        due.is("3 empty", x.count(5), 0);
        due.is("3 again", x.clear(), 0);
        due.is("3 type begins anew", x.type('r'), 1);
        due.is("3 no deed", x.count(6), 0);
        typed(x, "oom 3;");
        due.is("3 the new text alone", x.tells(), 1);
        due.is("3 its room", x.count(2), 3);
    }

    private static void tells() {
        CoinTrack x = new CoinTrack();
        typed(x, "  coin 20 30 0 2 10;coin25 40 1 3 0 ; hole20 2;scale 99 9;rim 0 1;rim 2 9;room 1; room 99;  ");
        due.is("4 items", x.tells(), 8);
        due.is("4 the text is empty", x.count(5), 0);
        due.is("4 kinds", x.count(0), 2);
        due.is("4 tests", x.count(1), 4);
        due.is("4 room: the later", x.count(2), 99);
        int[] kinds = {20, 30, 0, 2, 10, 25, 40, 1, 3, 0};
        for (int i = 0; i < kinds.length; i++) {
            due.is("4 kind " + i / 5 + ", " + i % 5, x.kind(i / 5, i % 5), kinds[i]);
        }
        int[] tests = {0, 20, 2, 1, 99, 9, 2, 0, 1, 2, 2, 9};
        for (int i = 0; i < tests.length; i++) {
            due.is("4 test " + i / 3 + ", " + i % 3, x.test(i / 3, i % 3), tests[i]);
        }
        typed(x, "rim 1 1;");
        due.is("4 told anew", x.tells(), 1);
        due.is("4 no kinds any more", x.count(0), 0);
        due.is("4 one test", x.count(1), 1);
        due.is("4 room as at first", x.count(2), 20);
        due.is("4 no items", x.tells(), 0);
        due.is("4 no tests any more", x.count(1), 0);
        typed(x, "   ");
        due.is("4 blanks alone", x.tells(), 0);
        due.is("4 blanks are gone", x.count(5), 0);
        due.is("4 no blank needed but between numbers", answerTo("coin1 1 0 0 0;hole1 1;room5;"), 3);
        tellsEmptiesBins();
    }

    private static void tellsEmptiesBins() {
        CoinTrack x = told("coin 5 5 0 0 1; room 1;");
        x.drops(0, 0);
        x.drops(0, 0);
        due.is("4 a jam", x.track(3), 0);
        x.sees(0, 0, 0);
        x.keep(1);
        typed(x, "coin 5 5 0 0 1; room 1;");
        due.is("4 told", x.tells(), 2);
        due.is("4 no jam", x.track(3), NONE);
        due.is("4 no coins", x.count(3), 0);
        due.is("4 seen stays", x.count(4), 1);
        due.is("4 images stay", x.back(1), 0);
        due.is("4 the image has the jam", x.track(3), 0);
    }

    private static void tellsFaults() {
        fault("coins 1 1 0 0 0;", 0);
        fault("  4", 2);
        fault(";", 0);
        fault("room 5;;", 7);
        fault("room;", 4);
        fault("room 5 5;", 7);
        fault("room 5 room 6;", 7);
        fault("room", 4);
        fault("room 5", 6);
        fault("room 5  ", 8);
        fault("room  ", 6);
        fault("room 05;", 5);
        fault("room 00;", 5);
        fault("room 123;", 5);
        fault("room 0;", 5);
        fault("room -5;", 5);
        fault("room 5.", 6);
        fault("Room 5;", 0);
        fault("rOom 5;", 0);
        fault("ro om 5;", 0);
        fault("roomroom 5;", 0);
        fault("room 5;\t", 7);
        fault("room\n5;", 4);
        fault("" + (char) 0, 0);
        fault("room 5;" + (char) 255, 7);
        fault("room 5 ;x$", 8);
        fault("rooms$", 0);
        fault("room 5x;", 6);
        fault("room 5{", 6);
        fault("room `;", 5);
        fault("room 5:", 6);
        fault("room /;", 5);
        fault("coin 1 1 0 0;", 12);
        fault("coin 1 1 0 0 0 0;", 15);
        fault("hole 1;", 6);
        fault("hole 1 1 1;", 9);
        fault("hole 1 1", 8);
        fault("coin hole", 5);
        fault("coin 0 5 0 0 0;", 5);
        fault("coin 5 0 0 0 0;", 7);
        fault("hol 1 1;", 0);
        fault("holes 1 1;", 0);
        fault("scal 1 1;", 0);
        fault("rims 1 1;", 0);
    }

    private static void tellsLimits() {
        due.is("4 greatest coin", answerTo("coin 99 99 2 9 99;"), 1);
        due.is("4 least coin", answerTo("coin 1 1 0 0 0;"), 1);
        due.is("4 wear just less than weight", answerTo("coin 1 5 0 4 0;"), 1);
        fault("coin 1 5 0 5 0;", 11);
        fault("coin 1 99 0 10 0;", 12);
        fault("coin 1 1 3 0 0;", 9);
        fault("coin 1 1 0 0 100;", 13);
        due.is("4 hole 99", answerTo("hole 99 9;"), 1);
        fault("hole 0 1;", 5);
        fault("hole 100 1;", 5);
        fault("hole 1 0;", 7);
        fault("hole 1 10;", 7);
        due.is("4 scale 1", answerTo("scale 1 1;"), 1);
        fault("scale 0 1;", 6);
        due.is("4 rim 0", answerTo("rim 0 1;"), 1);
        due.is("4 rim 2", answerTo("rim 2 1;"), 1);
        fault("rim 3 1;", 4);
        String coins = times("coin1 1 0 0 0;", 6);
        due.is("4 six coins", answerTo(coins), 6);
        fault(coins + " coin", coins.length() + 1);
        fault(coins + "coin 1 1 0 0 0;", coins.length());
        String tests = times("rim0 1;hole1 1;scale1 1;", 2);
        due.is("4 six tests", answerTo(tests), 6);
        fault(tests + " hole", tests.length() + 1);
        fault(tests + "scale", tests.length());
        fault(tests + "rim", tests.length());
        due.is("4 room behind six tests", answerTo(tests + "room1;"), 7);
        due.is("4 rooms", answerTo(times("room1;", 25)), 25);
        String full = times("room1;", 24) + "room1 ";
        fault(full, 150);
    }

    private static void drops() {
        CoinTrack x = told("coin 20 30 0 3 1; coin 30 50 1 0 1; scale 28 1; hole 20 2; rim 0 1; room 2;");
        due.is("5 no such kind", x.drops(2, 0), BAD);
        due.is("5 kind below", x.drops(-1, 0), BAD);
        due.is("5 kind least", x.drops(LEAST, 0), BAD);
        due.is("5 worn too much", x.drops(0, 4), BAD);
        due.is("5 worn by less than nothing", x.drops(0, -1), BAD);
        due.is("5 worn by most", x.drops(0, MOST), BAD);
        due.is("5 refused is no deed", x.count(6), 1);
        due.is("5 new", x.drops(0, 0), 1);
        due.is("5 worn by 1", x.drops(0, 1), 1);
        due.is("5 worn by 2", x.drops(0, 2), 0);
        due.is("5 at none", x.drops(1, 0), 3);
        due.is("5 coins in 1", x.bin(1, 1), 2);
        due.is("5 coins in 0", x.bin(0, 1), 1);
        due.is("5 coins in 3", x.bin(3, 1), 1);
        due.is("5 jam", x.drops(0, 0), 101);
        due.is("5 where", x.track(3), 1);
        due.is("5 the coin is in none", x.bin(1, 1), 2);
        due.is("5 a jam refuses", x.drops(1, 0), STATE);
        due.is("5 bad goes ahead", x.drops(1, 1), BAD);
        due.is("5 a jam is a deed", x.count(6), 6);
        CoinTrack last = told("coin 1 1 0 0 1; rim 1 1; rim 1 1; rim 1 1; rim 1 1; rim 1 1; rim 1 1; room 1;");
        due.is("5 the last bin of seven", last.drops(0, 0), 6);
        due.is("5 it is jammed", last.drops(0, 0), 106);
        CoinTrack twenty = told("coin 1 1 0 0 1;");
        for (int i = 0; i < 20; i++) {
            due.is("5 room is 20", twenty.drops(0, 0), 0);
        }
        due.is("5 no room for 21", twenty.drops(0, 0), 100);
    }

    private static void frees() {
        CoinTrack x = told("coin 20 30 0 0 1; rim 1 1; room 1;");
        due.is("6 no jam", x.frees(), STATE);
        x.drops(0, 0);
        x.drops(0, 0);
        due.is("6 freed", x.frees(), 1);
        due.is("6 the bin is as full", x.bin(1, 1), 1);
        due.is("6 no jam any more", x.track(3), NONE);
        due.is("6 not twice", x.frees(), STATE);
        due.is("6 jammed again", x.drops(0, 0), 101);
        due.is("6 deeds", x.count(6), 5);
    }

    private static void empties() {
        CoinTrack x = told("coin 20 30 0 0 1; rim 1 1; room 2;");
        due.is("7 below", x.empties(-1), BAD);
        due.is("7 beyond", x.empties(2), BAD);
        due.is("7 least", x.empties(LEAST), BAD);
        due.is("7 none in it", x.empties(1), STATE);
        x.drops(0, 0);
        x.drops(0, 0);
        x.drops(0, 0);
        due.is("7 had", x.empties(1), 2);
        due.is("7 has none", x.bin(1, 1), 0);
        due.is("7 the jam stays", x.track(3), 1);
        due.is("7 the jam refuses", x.drops(0, 0), STATE);
        due.is("7 none any more", x.empties(1), STATE);
        due.is("7 freed", x.frees(), 1);
        due.is("7 room again", x.drops(0, 0), 1);
        due.is("7 the other one", x.empties(0), STATE);
    }

    private static void puts() {
        CoinTrack x = new CoinTrack();
        int[][] bad = {
            {-1, 0, 1, 1}, {1, 0, 1, 1}, {0, -1, 1, 1}, {0, 3, 1, 1}, {0, 0, 0, 1}, {0, 0, 100, 1}, {0, 1, 0, 1},
            {0, 1, 100, 1}, {0, 2, -1, 1}, {0, 2, 3, 1}, {0, 0, 1, 0}, {0, 0, 1, 10}, {LEAST, 0, 1, 1},
            {MOST, 0, 1, 1}, {0, 0, 1, LEAST}, {0, MOST, 1, 1}, {0, 2, LEAST, 1}};
        for (int[] b : bad) {
            due.is("8 bad", x.puts(b[0], b[1], b[2], b[3]), BAD);
        }
        due.is("8 refused is no deed", x.count(6), 0);
        due.is("8 first", x.puts(0, 0, 1, 9), 1);
        due.is("8 behind", x.puts(1, 1, 99, 1), 2);
        due.is("8 ahead", x.puts(0, 2, 0, 2), 3);
        due.is("8 between", x.puts(2, 2, 2, 3), 4);
        int[] rows = {2, 0, 2, 0, 1, 9, 2, 2, 3, 1, 99, 1};
        for (int i = 0; i < rows.length; i++) {
            due.is("8 test " + i / 3 + ", " + i % 3, x.test(i / 3, i % 3), rows[i]);
        }
        due.is("8 fifth", x.puts(4, 0, 99, 1), 5);
        due.is("8 sixth", x.puts(0, 1, 1, 1), 6);
        due.is("8 full", x.puts(6, 1, 1, 1), FULL);
        due.is("8 full ahead", x.puts(0, 2, 0, 1), FULL);
        due.is("8 bad goes ahead of full", x.puts(7, 1, 1, 1), BAD);
        due.is("8 bad bound goes ahead of full", x.puts(0, 2, 3, 1), BAD);
        due.is("8 six", x.count(1), 6);
        CoinTrack jammed = jammed();
        due.is("8 put in at a jam", jammed.puts(1, 0, 9, 1), 2);
        emptied("8", jammed);
    }

    /** One test, coins in both bins, a jam at bin 1. */
    private static CoinTrack jammed() {
        CoinTrack x = told("coin 20 30 0 0 1; coin 20 30 1 0 1; rim 1 1; room 1;");
        x.drops(0, 0);
        x.drops(1, 0);
        x.drops(0, 0);
        due.is("two coins", x.count(3), 2);
        due.is("a jam", x.track(3), 1);
        return x;
    }

    private static void emptied(String promise, CoinTrack x) {
        due.is(promise + " no coins", x.count(3), 0);
        due.is(promise + " no jam", x.track(3), NONE);
        due.is(promise + " room stays", x.count(2), 1);
        due.is(promise + " undone", x.undo(), 4);
        due.is(promise + " coins again", x.count(3), 2);
        due.is(promise + " a jam again", x.track(3), 1);
    }

    private static void takes() {
        CoinTrack x = told("hole 1 1; scale 2 2; rim 0 3;");
        due.is("9 below", x.takes(-1), BAD);
        due.is("9 beyond", x.takes(3), BAD);
        due.is("9 most", x.takes(MOST), BAD);
        due.is("9 the middle one", x.takes(1), 2);
        due.is("9 the first stays", x.test(0, 1), 1);
        due.is("9 the last moves", x.test(1, 0), 2);
        due.is("9 its bound too", x.test(1, 1), 0);
        due.is("9 its cost too", x.test(1, 2), 3);
        due.is("9 two tests", x.test(2, 0), BAD);
        due.is("9 the first", x.takes(0), 1);
        due.is("9 the rim is left", x.test(0, 0), 2);
        due.is("9 the last", x.takes(0), 0);
        due.is("9 none is left", x.takes(0), BAD);
        CoinTrack jammed = jammed();
        due.is("9 taken out at a jam", jammed.takes(0), 0);
        emptied("9", jammed);
    }

    private static void sets() {
        CoinTrack x = told("hole 1 1; scale 99 2; rim 0 3;");
        int[][] bad = {
            {-1, 1}, {3, 1}, {0, 0}, {0, 100}, {1, 0}, {1, 100}, {2, -1}, {2, 3}, {LEAST, 1}, {MOST, 1}, {0, MOST}};
        for (int[] b : bad) {
            due.is("10 bad", x.sets(b[0], b[1]), BAD);
        }
        due.is("10 it is that", x.sets(0, 1), STATE);
        due.is("10 it is that, a rim", x.sets(2, 0), STATE);
        due.is("10 refused is no deed", x.count(6), 1);
        due.is("10 hole", x.sets(0, 99), 1);
        due.is("10 scale", x.sets(1, 1), 99);
        due.is("10 rim", x.sets(2, 2), 0);
        due.is("10 hole is", x.test(0, 1), 99);
        due.is("10 scale is", x.test(1, 1), 1);
        due.is("10 rim is", x.test(2, 1), 2);
        due.is("10 cost stays", x.test(2, 2), 3);
        CoinTrack jammed = jammed();
        due.is("10 set at a jam", jammed.sets(0, 0), 1);
        emptied("10", jammed);
    }

    private static void adds() {
        CoinTrack x = jammed();
        int[][] bad = {
            {0, 5, 0, 0}, {100, 5, 0, 0}, {5, 0, 0, 0}, {5, 100, 0, 0}, {5, 5, -1, 0}, {5, 5, 3, 0}, {5, 5, 0, -1},
            {5, 5, 0, 5}, {5, 99, 0, 10}, {LEAST, 5, 0, 0}, {5, MOST, 0, 0}, {5, 5, 0, LEAST}, {5, 1, 0, 1}};
        for (int[] b : bad) {
            due.is("11 bad", x.adds(b[0], b[1], b[2], b[3]), BAD);
        }
        due.is("11 third", x.adds(99, 99, 2, 9), 2);
        due.is("11 coins stay", x.count(3), 2);
        due.is("11 the jam stays", x.track(3), 1);
        int[] row = {99, 99, 2, 9, 1};
        for (int i = 0; i < row.length; i++) {
            due.is("11 of the kind " + i, x.kind(2, i), row[i]);
        }
        due.is("11 fourth", x.adds(1, 1, 0, 0), 3);
        due.is("11 fifth", x.adds(1, 5, 0, 4), 4);
        due.is("11 sixth", x.adds(1, 1, 0, 0), 5);
        due.is("11 full", x.adds(1, 1, 0, 0), FULL);
        due.is("11 bad goes ahead of full", x.adds(1, 1, 0, 1), BAD);
        due.is("11 six", x.count(0), 6);
    }

    private static void undo() {
        CoinTrack x = new CoinTrack();
        due.is("12 none", x.undo(), STATE);
        CoinTrack y = new CoinTrack();
        for (int i = 0; i < 6; i++) {
            y.adds(i + 1, 5, 0, 0);
        }
        y.puts(0, 0, 7, 1);
        y.sets(0, 8);
        due.is("12 of eight six are known", y.count(6), 6);
        for (int left = 5; left >= 0; left--) {
            due.is("12 more", y.undo(), left);
        }
        due.is("12 no more", y.undo(), STATE);
        due.is("12 two kinds are left", y.count(0), 2);
        due.is("12 no test is left", y.count(1), 0);
        due.is("12 done again", y.adds(9, 9, 0, 0), 2);
        due.is("12 undone again", y.undo(), 0);
        due.is("12 two again", y.count(0), 2);
    }

    private static void undoEachDeed() {
        CoinTrack x = told("coin 20 30 0 1 7; rim 1 1; room 1;");
        typed(x, "room 50;");
        x.tells();
        due.is("12 tells", x.undo(), 1);
        due.is("12 the room again", x.count(2), 1);
        due.is("12 the share again", x.kind(0, 4), 7);
        due.is("12 the text does not come again", x.count(5), 0);
        x.drops(0, 0);
        x.drops(0, 0);
        x.sees(0, 0, 0);
        x.frees();
        due.is("12 frees", x.undo(), 3);
        due.is("12 the jam again", x.track(3), 1);
        due.is("12 what was seen stays", x.count(4), 1);
        x.empties(1);
        due.is("12 empties", x.undo(), 3);
        due.is("12 the coin again", x.bin(1, 1), 1);
        due.is("12 a jam by drops", x.undo(), 2);
        due.is("12 no jam", x.track(3), NONE);
        due.is("12 drops", x.undo(), 1);
        due.is("12 no coin", x.count(3), 0);
        x.puts(0, 0, 5, 5);
        x.undo();
        due.is("12 puts", x.test(0, 0), 2);
        x.takes(0);
        x.undo();
        due.is("12 takes", x.test(0, 1), 1);
        x.sets(0, 2);
        x.undo();
        due.is("12 sets", x.test(0, 1), 1);
        typed(x, "roo");
        x.adds(1, 1, 1, 0);
        x.keep(0);
        x.undo();
        due.is("12 adds", x.count(0), 1);
        due.is("12 the text stays", x.count(5), 3);
        due.is("12 the image stays", x.back(0), 1);
        due.is("12 the image's kinds", x.count(0), 2);
    }

    private static void kind() {
        CoinTrack x = told("coin 20 30 2 9 50; coin 9 9 0 0 0; scale 28 3; hole 20 4; rim 2 5; scale 23 6;");
        int[] row = {20, 30, 2, 9, 50, 3, 7, 1};
        for (int what = 0; what < row.length - 1; what++) {
            due.is("13 what " + what, x.kind(0, what), row[what]);
        }
        due.is("13 no such what", x.kind(0, 8), BAD);
        due.is("13 what below", x.kind(0, -1), BAD);
        due.is("13 no such kind", x.kind(2, 0), BAD);
        due.is("13 kind below", x.kind(-1, 0), BAD);
        due.is("13 kind least", x.kind(LEAST, 5), BAD);
        due.is("13 what most", x.kind(0, MOST), BAD);
        due.is("13 first bin", x.kind(1, 5), 1);
        due.is("13 its toll", x.kind(1, 6), 3);
        CoinTrack none = told("coin 50 50 0 0 3; rim 1 2; hole 49 9; scale 49 4;");
        due.is("13 falls at none", none.kind(0, 5), 8);
        due.is("13 toll of all", none.kind(0, 6), 15);
        CoinTrack noTests = told("coin 50 50 0 9 3;");
        due.is("13 one bin", noTests.kind(0, 5), 1);
        due.is("13 no toll", noTests.kind(0, 6), 0);
    }

    private static void bears() {
        CoinTrack x = told("coin 20 30 0 2 1; coin 20 60 0 0 1; coin 20 99 0 9 1; scale 30 1; scale 60 1;");
        due.is("13 bears down to its scale's end", x.kind(0, 7), 29);
        due.is("13 till it is as the lighter one", x.kind(1, 7), 29);
        due.is("13 beyond 9", x.kind(2, 7), 38);
        CoinTrack same = told("coin 20 30 0 0 1; coin 20 30 0 0 1; coin 20 99 0 0 1; scale 30 1;");
        due.is("13 not apart by any", same.kind(0, 7), NONE);
        due.is("13 others are not apart", same.kind(2, 7), NONE);
        CoinTrack alone = told("coin 20 99 0 0 1; scale 30 1; scale 50 1;");
        due.is("13 alone: 98", alone.kind(0, 7), 98);
        due.is("13 its wear stays", alone.kind(0, 3), 0);
        CoinTrack light = told("coin 20 1 0 0 1;");
        due.is("13 less than its weight", light.kind(0, 7), 0);
        CoinTrack less = told("coin 20 40 0 9 1; coin 20 35 0 0 1; scale 35 1;");
        due.is("13 not apart as they are", less.track(0), 0);
        due.is("13 apart by less", less.kind(0, 7), 4);
        due.is("13 of the other none", less.kind(1, 7), NONE);
    }

    private static void test() {
        CoinTrack x = told("hole 20 4; rim 2 5;");
        int[] rows = {0, 20, 4, 2, 2, 5};
        for (int i = 0; i < rows.length; i++) {
            due.is("14 test " + i / 3 + ", " + i % 3, x.test(i / 3, i % 3), rows[i]);
        }
        due.is("14 no such test", x.test(2, 0), BAD);
        due.is("14 below", x.test(-1, 0), BAD);
        due.is("14 no such what", x.test(0, 3), BAD);
        due.is("14 what below", x.test(1, -1), BAD);
        due.is("14 most", x.test(MOST, MOST), BAD);
    }

    private static void bin() {
        CoinTrack x = told("coin 20 30 0 9 1; coin 20 25 1 0 1; coin 9 99 2 0 1; scale 25 1; hole 9 1;");
        due.is("15 two kinds", x.bin(0, 0), 3);
        due.is("15 the hole", x.bin(1, 0), 4);
        due.is("15 the last", x.bin(2, 0), 1);
        x.drops(0, 5);
        x.drops(0, 5);
        due.is("15 coins", x.bin(0, 1), 2);
        due.is("15 no coins", x.bin(2, 1), 0);
        due.is("15 beyond", x.bin(3, 0), BAD);
        due.is("15 below", x.bin(-1, 1), BAD);
        due.is("15 no such what", x.bin(0, 2), BAD);
        due.is("15 what below", x.bin(0, -1), BAD);
        due.is("15 least", x.bin(LEAST, 0), BAD);
    }

    private static void coin() {
        CoinTrack x = told("coin 20 30 0 0 1; coin 30 5 1 0 1; hole 20 2; scale 10 3; rim 1 4;");
        due.is("16 diameter as the bound", x.coin(20, 99, 2, 0), 0);
        due.is("16 weight as the bound", x.coin(21, 10, 2, 0), 1);
        due.is("16 edge", x.coin(21, 11, 1, 0), 2);
        due.is("16 at none", x.coin(21, 11, 2, 0), 3);
        due.is("16 another edge below", x.coin(21, 11, 0, 0), 3);
        due.is("16 taken for 0", x.coin(1, 1, 0, 1), 1);
        due.is("16 taken for 1", x.coin(99, 1, 0, 1), 2);
        due.is("16 taken for none", x.coin(99, 99, 1, 1), 0);
        due.is("16 toll 0", x.coin(20, 99, 2, 2), 2);
        due.is("16 toll 1", x.coin(21, 10, 2, 2), 5);
        due.is("16 toll 2", x.coin(21, 11, 1, 2), 9);
        due.is("16 toll of all", x.coin(99, 99, 0, 2), 9);
        int[][] bad = {
            {0, 1, 0, 0}, {100, 1, 0, 0}, {1, 0, 0, 0}, {1, 100, 0, 0}, {1, 1, -1, 0}, {1, 1, 3, 0}, {1, 1, 0, -1},
            {1, 1, 0, 3}, {LEAST, 1, 0, 0}, {1, MOST, 0, 0}};
        for (int[] b : bad) {
            due.is("16 bad", x.coin(b[0], b[1], b[2], b[3]), BAD);
        }
    }

    private static void track() {
        CoinTrack x = told("coin 20 30 0 2 10; coin 25 40 1 9 20; coin 25 52 1 4 5; hole 20 2; scale 35 3;");
        due.is("17 not apart", x.track(0), 0);
        due.is("17 doubtful", x.track(1), 2);
        due.is("17 price", x.track(2), 10 * 2 + 20 * 5 + 5 * 5);
        due.is("17 no jam", x.track(3), NONE);
        due.is("17 below", x.track(-1), BAD);
        due.is("17 beyond", x.track(5), BAD);
        due.is("17 most", x.track(MOST), BAD);
        CoinTrack apart = told("coin 20 30 0 9 10; coin 25 40 1 9 0; rim 1 1; scale 28 9;");
        due.is("17 apart", apart.track(0), 1);
        due.is("17 doubtful, and apart", apart.track(1), 1);
        due.is("17 the greatest toll", apart.track(2), 100);
        CoinTrack greatest = told(times("coin1 9 0 0 99;", 6) + times("rim1 9;", 6));
        due.is("17 the greatest price", greatest.track(2), 6 * 99 * 54);
    }

    private static void fewest() {
        CoinTrack x = told("coin 20 30 0 0 1; coin 25 40 1 0 1; hole 20 2; scale 30 3; rim 1 1; rim 0 1;");
        due.is("17 one test, the least bits", x.track(4), 1);
        CoinTrack none = told("coin 20 30 0 0 1; coin 20 30 0 0 1; hole 20 2;");
        due.is("17 by no set", none.track(4), NONE);
        CoinTrack empty = told("coin 20 30 0 9 1; hole 20 2; scale 25 1;");
        due.is("17 one kind: no tests", empty.track(4), 0);
        due.is("17 nothing", new CoinTrack().track(4), 0);
        CoinTrack more = told("coin 9 9 0 0 1; coin 9 9 1 0 1; coin 9 9 2 0 1; hole 9 1; rim 2 1; hole 9 1; rim 1 1; rim 0 1;");
        due.is("17 not apart with all", more.track(0), 0);
        due.is("17 two of five", more.track(4), 2 + 8);
        // Three tests have fewer bits set than the four that come first by their numbers.
        CoinTrack late = told("coin 9 9 0 0 1; coin 5 9 0 0 1; coin 5 3 0 0 1; hole 1 1; hole 5 1; scale 3 1; hole 5 1;");
        due.is("17 their order counts", late.track(4), 4 + 8);
    }

    private static void order() {
        CoinTrack x = told("coin 20 30 0 0 1; coin 25 40 1 0 9; rim 2 5; hole 20 2; rim 1 1;");
        due.is("18 price", x.order(-1), 1 * (1 + 2) + 9 * 1);
        int[] places = {2, 1, 0, NONE, NONE};
        for (int k = 0; k < places.length; k++) {
            due.is("18 place " + k, x.order(k), places[k]);
        }
        due.is("18 most", x.order(MOST), NONE);
        due.is("18 below", x.order(-2), BAD);
        due.is("18 least", x.order(LEAST), BAD);
        due.is("18 nothing is changed", x.test(0, 0), 2);
        CoinTrack none = told("coin 20 30 0 0 1; coin 20 30 0 0 9; rim 2 5;");
        due.is("18 none", none.order(-1), NONE);
        due.is("18 none at 0", none.order(0), NONE);
        CoinTrack empty = told("coin 20 30 0 0 1;");
        due.is("18 no tests: nothing to pay", empty.order(-1), 0);
        due.is("18 no tests", empty.order(0), NONE);
        CoinTrack alike = told("coin 20 30 0 0 0; rim 1 2; rim 1 1; hole 5 3;");
        due.is("18 alike, price", alike.order(-1), 0);
        for (int k = 0; k < 3; k++) {
            due.is("18 alike: the first order", alike.order(k), k);
        }
        CoinTrack six = told("coin 1 9 0 0 9;" + times("rim 1 1;", 6));
        for (int k = 0; k < 6; k++) {
            due.is("18 six alike", six.order(k), k);
        }
        due.is("18 six alike, no seventh", six.order(6), NONE);
        // The cheapest order would let two kinds fall at the hole.
        CoinTrack apart = told("coin 9 9 0 0 50; coin 9 50 1 0 50; hole 9 1; rim 1 9;");
        due.is("18 the one by which they are apart", apart.order(-1), 50 * 10 + 50 * 9);
        due.is("18 the rim ahead", apart.order(0), 1);
        due.is("18 the hole behind", apart.order(1), 0);
    }

    private static void planningWithWornCoins() {
        CoinTrack x = told("coin 20 30 0 5 1; coin 20 27 1 0 1; scale 27 1; rim 1 1;");
        due.is("17 the scale would mix worn ones with the others", x.track(0), 0);
        due.is("17 fewest: the rim", x.track(4), 2);
        due.is("18 price, the worn ones too", x.order(-1), 2 + 1);
        due.is("18 the rim ahead of the scale", x.order(0), 1);
    }

    private static void sees() {
        CoinTrack x = new CoinTrack();
        int[][] bad = {
            {-1, 0, 0}, {6, 0, 0}, {0, -1, 0}, {0, 10, 0}, {0, 0, -1}, {0, 0, 7}, {LEAST, 0, 0}, {0, MOST, 0}};
        for (int[] b : bad) {
            due.is("19 bad", x.sees(b[0], b[1], b[2]), BAD);
        }
        due.is("19 none", x.count(4), 0);
        for (int n = 1; n <= 6; n++) {
            due.is("19 seen", x.sees(5, 9, 6), n);
        }
        due.is("19 full", x.sees(0, 0, 0), FULL);
        due.is("19 bad goes ahead of full", x.sees(0, 0, 7), BAD);
        due.is("19 six", x.count(4), 6);
        due.is("19 no deed", x.count(6), 0);
    }

    private static void forget() {
        CoinTrack x = told("coin 20 30 0 0 1; hole 20 1;");
        due.is("20 none", x.forget(), 0);
        x.sees(0, 0, 1);
        x.sees(0, 0, 0);
        due.is("20 so by none", x.suspects(0), 0);
        due.is("20 two", x.forget(), 2);
        due.is("20 none any more", x.count(4), 0);
        due.is("20 all are suspects", x.suspects(0), 3);
        due.is("20 room again", x.sees(0, 0, 0), 1);
    }

    private static void suspects() {
        CoinTrack x = told("coin 20 30 0 2 1; coin 21 30 0 2 1; rim 1 1; hole 20 1; scale 27 1;");
        due.is("21 nothing seen: all", x.suspects(0), 5);
        due.is("21 none is off", x.suspects(1), -1);
        x.sees(1, 0, 1);
        due.is("21 the hole is 1 more", x.suspects(0), 1);
        due.is("21 its number", x.suspects(1), 2 * 1 + 1);
        x.forget();
        x.sees(0, 0, 3);
        due.is("21 the hole is 1 less", x.suspects(1), 2 * 1);
        x.sees(0, 2, 2);
        due.is("21 two are off", x.suspects(0), 0);
        due.is("21 no first", x.suspects(1), NONE);
        x.forget();
        x.sees(1, 2, 2);
        due.is("21 the scale is 1 more", x.suspects(1), 2 * 2 + 1);
        x.sees(1, 2, 2);
        due.is("21 seen twice", x.suspects(0), 1);
        x.forget();
        x.sees(1, 0, 0);
        due.is("21 a rim is never off", x.suspects(0), 0);
        due.is("21 below", x.suspects(-1), NO);
        due.is("21 beyond", x.suspects(2), NO);
        due.is("21 most", x.suspects(MOST), NO);
        suspectsBySeenThatIsNotThere();
    }

    private static void suspectsBySeenThatIsNotThere() {
        CoinTrack x = told("coin 20 30 0 2 1;");
        x.sees(1, 0, 0);
        due.is("21 no such kind", x.suspects(0), 0);
        x.adds(9, 9, 0, 0);
        due.is("21 as all stands when asked", x.suspects(0), 1);
        x.forget();
        x.sees(0, 3, 0);
        due.is("21 worn by more", x.suspects(0), 0);
        x.forget();
        x.sees(0, 0, 1);
        due.is("21 beyond the last bin", x.suspects(1), NONE);
        x.puts(0, 2, 1, 1);
        due.is("21 there is that bin now", x.suspects(1), -1);
        due.is("21 nothing else", x.suspects(0), 1);
        CoinTrack edge = told("coin 1 99 0 0 1; hole 1 1; scale 99 1; scale 99 1;");
        edge.sees(0, 0, 1);
        due.is("21 a hole of 1 may be truly 0", edge.suspects(1), 0);
        due.is("21 that alone", edge.suspects(0), 1);
        CoinTrack all = told("coin 9 9 0 0 1;" + times("hole 1 1;", 6));
        due.is("21 thirteen at most", all.suspects(0), 13);
    }

    private static void look() {
        due.is("22 nothing", new CoinTrack().look(), NONE);
        CoinTrack noKinds = told("hole 5 1;");
        due.is("22 three suspects", noKinds.suspects(0), 3);
        due.is("22 no kinds", noKinds.look(), NONE);
        CoinTrack one = told("coin 9 9 0 0 1; rim 1 1;");
        due.is("22 one suspect", one.look(), NONE);
        CoinTrack x = told("coin 50 50 0 9 1; coin 21 90 0 0 1; hole 20 1; scale 45 1;");
        due.is("22 the first that tells something", x.look(), 4);
        x.sees(0, 5, 1);
        due.is("22 the scale is not 1 less", x.suspects(0), 4);
        due.is("22 still the scale", x.look(), 4);
        x.sees(0, 4, 2);
        due.is("22 the scale is not off", x.suspects(0), 3);
        due.is("22 the other kind", x.look(), 10);
        x.sees(1, 0, 2);
        due.is("22 two are left", x.suspects(0), 2);
        due.is("22 no coin tells them apart: the least", x.look(), 0);
        due.is("22 nothing is changed", x.count(4), 3);
        CoinTrack first = told("coin 5 9 0 0 1; coin 20 9 0 0 1; hole 20 1;");
        due.is("22 bin 0 is one and the same bin too", first.look(), 10);
        CoinTrack two = told("coin 5 9 0 0 1; coin 6 9 0 0 1; hole 5 1; hole 9 1;");
        two.sees(0, 0, 1);
        due.is("22 one suspect at most", two.look(), NONE);
    }

    private static void keepAndBack() {
        CoinTrack x = jammed();
        due.is("23 below", x.keep(-1), BAD);
        due.is("23 beyond", x.keep(2), BAD);
        due.is("23 most", x.keep(MOST), BAD);
        due.is("24 below", x.back(-1), BAD);
        due.is("24 beyond", x.back(2), BAD);
        due.is("24 none was kept", x.back(0), STATE);
        due.is("24 refused changes nothing", x.count(6), 4);
        due.is("23 kept", x.keep(0), 1);
        due.is("23 what can be undone stays", x.count(6), 4);
        due.is("24 the other was not kept", x.back(1), STATE);
        typed(x, "hole 1 1; hole 2 2; room 3;");
        x.tells();
        due.is("23 another", x.keep(1), 2);
        typed(x, "ro");
        x.sees(0, 0, 0);
        due.is("24 back", x.back(0), 1);
        due.is("24 kinds", x.count(0), 2);
        due.is("24 room", x.count(2), 1);
        due.is("24 coins", x.count(3), 2);
        due.is("24 jam", x.track(3), 1);
        due.is("24 letters stay", x.count(5), 2);
        due.is("24 seen stays", x.count(4), 1);
        due.is("24 nothing can be undone", x.count(6), 0);
        due.is("24 nothing is undone", x.undo(), STATE);
        due.is("24 the other", x.back(1), 2);
        due.is("24 its room", x.count(2), 3);
        due.is("24 its bound", x.test(1, 1), 2);
        x.sets(1, 50);
        due.is("24 undone behind a deed", x.undo(), 0);
        x.sets(1, 60);
        due.is("24 an image is not changed", x.back(1), 2);
        due.is("24 its bound again", x.test(1, 1), 2);
        due.is("23 kept anew", x.keep(0), 2);
        due.is("24 the new one", x.back(0), 2);
        due.is("24 its room too", x.count(2), 3);
        CoinTrack empty = new CoinTrack();
        due.is("23 nothing kept", empty.keep(1), 0);
        empty.adds(1, 1, 1, 0);
        due.is("24 nothing again", empty.back(1), 0);
        due.is("24 no kinds", empty.count(0), 0);
    }

    private static void count() {
        CoinTrack x = told("coin 20 30 0 0 1; coin 20 30 1 0 1; rim 1 1; rim 2 1; rim 2 1; room 44;");
        x.drops(0, 0);
        x.drops(1, 0);
        x.drops(1, 0);
        x.drops(1, 0);
        x.sees(0, 0, 0);
        typed(x, "seven..");
        int[] counts = {2, 3, 44, 4, 1, 7, 5};
        for (int what = 0; what < counts.length; what++) {
            due.is("25 what " + what, x.count(what), counts[what]);
        }
        due.is("25 below", x.count(-1), BAD);
        due.is("25 beyond", x.count(7), BAD);
        due.is("25 least", x.count(LEAST), BAD);
    }

    private static void refusedChangesNothing() {
        CoinTrack x = jammed();
        int[] before = answersOf(x);
        x.drops(0, 0);
        x.drops(9, 0);
        x.empties(5);
        x.puts(0, 0, 0, 0);
        x.takes(1);
        x.sets(0, 1);
        x.adds(1, 1, 1, 1);
        x.sees(0, 0, 9);
        x.keep(9);
        x.back(0);
        x.type(-1);
        x.track(4);
        x.order(-1);
        x.look();
        int[] behind = answersOf(x);
        for (int i = 0; i < before.length; i++) {
            due.is("refused, answer " + i, behind[i], before[i]);
        }
    }

    private static int[] answersOf(CoinTrack x) {
        int[] answers = new int[12];
        for (int what = 0; what < 7; what++) {
            answers[what] = x.count(what);
        }
        answers[7] = x.track(3);
        answers[8] = x.test(0, 1);
        answers[9] = x.bin(0, 1);
        answers[10] = x.bin(1, 1);
        answers[11] = x.kind(1, 2);
        return answers;
    }
}
