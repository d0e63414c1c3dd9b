/**
 * Terms, part 3, and promises 13 to 26: each sentence about ways that come again, tracks, others and chance that
 * names a boundary, on both sides of it. The sentence stands above its test.
 */
public final class WayEdgeTest {
    private static final int BAD = -1, STATE = -2, FULL = -3, NONE = -9;
    /** One cell of WOOD, 4, with HOLES about it: each step is a turn. */
    private static final String CAGE = "table 3 3;hole 0 0 3 1;hole 0 2 3 1;hole 0 1 1 1;hole 2 1 1 1;";
    /** Two cells of WOOD, 5 and 6, with HOLES about them. */
    private static final String PAIR = "table 4 3;hole 0 0 4 1;hole 0 2 4 1;hole 0 1 1 1;hole 3 1 1 1;";
    /** A row of WOOD, cells 5 to 9, with HOLES above and below. */
    private static final String FIVE = "table 5 3;hole 0 0 5 1;hole 0 2 5 1;";
    /** A row of WOOD, cells 7 to 13, with HOLES above and below. */
    private static final String SEVEN = "table 7 3;hole 0 0 7 1;hole 0 2 7 1;";
    /** That row with a HOLE at 11: with a NOSE of 2 it falls into it from 10 and from 12. */
    private static final String GAP = SEVEN + "hole 4 1 1 1;";
    /** A move to the right from 3 2, a turn down ahead of the one HOLE, a fall into the other. */
    private static final String STEEP = "table 9 5;toy 2 2 0 99;hole 6 2 1 1;hole 4 3 1 1;start 3 2 2;";
    /** A long way: the last of its 218 cells comes after 5956 STEPS. */
    private static final String LONG = "table 14 16;toy 1 4 9 999;start 3 13 4;book 0 12 3 1;book 12 1 1 3;";
    private static final Checks CHECKS = new Checks();

    private static void due(String call, long got, long want) {
        CHECKS.due(call, got, want);
    }

    public static void main(String[] args) {
        roundNumbers();
        roundByBent();
        roundBehindATail();
        roundOfAFall();
        roundIsFromNow();
        roundByAnEndlessSpring();
        startsNumbers();
        startsOnWoodWithoutABook();
        startsInARow();
        startsThatFall();
        trappedBehindMoves();
        ringsNumbers();
        ringsWithinSteps();
        ringsOnNoBell();
        commonIsTheLeast();
        commonIsNone();
        safeNoses();
        coversNumbers();
        coversWithinSteps();
        coversAFall();
        everywhereFewest();
        everywhereNone();
        everywhereOnBooks();
        bestNumbers();
        bestIsTheLeast();
        overIsState();
        endedIsNoState();
        trackNumbers();
        trackIsFull();
        wipeAll();
        fitsFewerThanTwo();
        fitsLeastAndMost();
        fitsEachTurn();
        fitsEachTrack();
        fitsFirstCellWood();
        fitsDoNotFall();
        fitsAsToyIs();
        meetNumbers();
        meetAtOnce();
        meetAtTheMost();
        meetNeitherFell();
        meetByOneStepEach();
        drawnNumbers();
        drawnWithinSteps();
        drawOnceATurn();
        drawLeftOver();
        drawnAFall();
        lotIsAnyNumber();
        CHECKS.end();
    }

    private static TinMouse put(String text, int x, int y, int d) {
        TinMouse mouse = Checks.told(text);
        due("put(" + x + ", " + y + ", " + d + ") on " + text, mouse.put(x, y, d), 1);
        return mouse;
    }

    private static void dueRound(String when, TinMouse x, int... want) {
        for (int what = 0; what < 4; what++) {
            due(when + ": round(" + what + ")", x.round(what), want[what]);
        }
    }

    private static void dueStarts(String text, int... want) {
        TinMouse x = Checks.told(text);
        for (int what = 0; what < 5; what++) {
            due("starts(" + what + ") of " + text, x.starts(what), want[what]);
        }
    }

    // ROUND: TAIL (what = 0), LENGTH (1), MOVES (2), CELLS (3). BAD; STATE: it is OVER.

    private static void roundNumbers() {
        TinMouse x = new TinMouse();
        CHECKS.range("round(what)", x::round, 0, 3, BAD);
        TinMouse over = Checks.told("hole 0 0 1 1;");
        CHECKS.range("round(what) when OVER", over::round, 0, 3, BAD);
        dueRound("OVER", over, STATE, STATE, STATE, STATE);
        due("put", over.put(1, 0, 2), 1);
        due("no longer OVER", over.round(0) >= 0 ? 1 : 0, 1);
    }

    // its STAND (cell, direction, BENT) comes again

    private static void roundByBent() {
        // to the right cell by cell, bent 5 moves on, turned at the ends by as many turns as it needs
        dueRound("BEND 2", Checks.told(FIVE + "toy 1 1 2 9;start 0 1 2;"), 0, 10, 4, 3);
        dueRound("BEND 3", Checks.told(FIVE + "toy 1 1 3 9;start 0 1 2;"), 0, 12, 6, 4);
        // cell 9, direction 3 comes with BENT 4, then with BENT 1: another STAND
        dueRound("BEND 5", Checks.told(FIVE + "toy 1 1 5 9;start 0 1 2;"), 0, 24, 10, 5);
        dueRound("BEND 0", Checks.told(FIVE + "toy 1 1 0 9;start 0 1 2;"), 0, 16, 8, 5);
        dueRound("turns alone", Checks.told(CAGE + "toy 1 1 3 9;start 1 1 2;"), 0, 8, 0, 1);
        dueRound("turns by 4", Checks.told(CAGE + "toy 1 4 3 9;start 1 1 2;"), 0, 2, 0, 1);
    }

    // TAIL (STEPS ahead of the first STAND that comes again), LENGTH (STEPS till it does)

    private static void roundBehindATail() {
        dueRound("no TAIL", Checks.told(SEVEN + "toy 1 2 0 9;start 2 1 2;"), 0, 16, 12, 7);
        dueRound("a TAIL of 1", Checks.told(SEVEN + "toy 1 2 0 9;start 2 1 0;"), 1, 16, 12, 7);
        dueRound("a TAIL of 2", Checks.told(SEVEN + "toy 1 1 0 9;start 2 1 0;"), 2, 20, 12, 7);
        // moves in the TAIL are none of the ROUND: to 2 by one, then it saws
        dueRound("a TAIL with a move", Checks.told(FIVE + "toy 1 4 1 9;start 1 1 2;"), 1, 2, 0, 1);
        dueRound("a TAIL with two", Checks.told(FIVE + "toy 1 4 2 9;start 1 1 2;"), 2, 2, 0, 1);
    }

    // where it falls TAIL is the STEPS to the fall, all else 0

    private static void roundOfAFall() {
        dueRound("a fall at once", put(GAP + "toy 2 2 0 9;", 3, 1, 2), 1, 0, 0, 0);
        dueRound("a fall behind a turn", put(GAP + "toy 2 2 0 9;", 3, 1, 0), 2, 0, 0, 0);
        dueRound("a fall behind two", put(GAP + "toy 2 1 0 9;", 3, 1, 0), 3, 0, 0, 0);
        dueRound("a fall behind a move and a turn", Checks.told(STEEP), 3, 0, 0, 0);
        dueRound("from the cell ahead of it is none", put(GAP + "toy 2 4 0 9;", 2, 1, 2), 0, 4, 2, 2);
        TinMouse both = Checks.told(GAP + "toy 2 4 0 9;start 2 1 2;");
        dueRound("a ROUND", both, 0, 4, 2, 2);
        both.put(3, 1, 2);
        dueRound("a fall behind a ROUND", both, 1, 0, 0, 0);
        both.put(1, 1, 2);
        dueRound("a ROUND behind a fall", both, 0, 4, 2, 2);
        TinMouse x = Checks.told(STEEP);
        for (int left = 3; left >= 1; left--) {
            due("STEPS to the fall", x.round(0), left);
            x.go(1);
        }
        due("fallen", x.round(0), STATE);
    }

    // ROUND from NOW

    private static void roundIsFromNow() {
        TinMouse x = Checks.told("table 9 7;toy 1 3 4 999;hole 3 3 1 1;book 6 2 1 1;start 1 1 2;");
        int tail = x.round(0);
        due("there is a TAIL", tail > 0 ? 1 : 0, 1);
        int length = x.round(1);
        for (int i = 1; i <= tail + 5; i++) {
            x.go(1);
            due("TAIL behind " + i + " STEPS", x.round(0), Math.max(0, tail - i));
            due("LENGTH behind " + i + " STEPS", x.round(1), length);
        }
        TinMouse bent = put("table 16 16;toy 1 4 9 99;", 0, 7, 2);
        due("no BENT", bent.round(1) > 0 ? 1 : 0, 1);
        int cell = bent.now(0);
        int straight = bent.covers(9);
        bent.go(5);
        due("a move on by BENT 5 bends sooner", bent.covers(4), 5);
        due("where it is", bent.now(0), cell + 5);
        due("ten cells from the first", straight, 10);
    }

    // By an endless spring

    private static void roundByAnEndlessSpring() {
        for (int spring : new int[] {0, 1, 9, 999}) {
            String text = SEVEN + "toy 1 2 0 " + spring + ";start 2 1 0;bell 0 1;";
            TinMouse x = Checks.told(text);
            dueRound("SPRING " + spring, x, 1, 16, 12, 7);
            due("covers by SPRING " + spring, x.covers(9999), 7);
            due("everywhere by SPRING " + spring, x.everywhere(), 13);
            due("drawn by SPRING " + spring, x.drawn(999) > 1 ? 1 : 0, 1);
            due("rings by SPRING " + spring, x.rings(0), 8);
            due("meet by SPRING " + spring, x.meet(5, 1, 6), 2);
            due("best by SPRING " + spring, x.best(999) > 0 ? 1 : 0, 1);
            due("SPRING left stays", x.now(3), spring);
            due("STEPS stay", x.now(5), 0);
        }
    }

    // ALL STARTS: how many (what = 0), FALL (1), TRAPPED (2), ROUNDS (3), the longest (4; 0). BAD.

    private static void startsNumbers() {
        TinMouse x = new TinMouse();
        CHECKS.range("starts(what)", x::starts, 0, 4, BAD);
        TinMouse over = Checks.told(CAGE + "start 0 0 0;");
        CHECKS.range("starts(what) when OVER", over::starts, 0, 4, BAD);
        due("starts(0) when OVER", over.starts(0), 8);
    }

    // cells that are WOOD without a BOOK, eight directions each

    private static void startsOnWoodWithoutABook() {
        dueStarts("hole 0 0 8 8;", 0, 0, 0, 0, 0);
        dueStarts("book 0 0 8 8;", 0, 0, 0, 0, 0);
        dueStarts("hole 0 0 8 4;book 0 4 8 4;", 0, 0, 0, 0, 0);
        dueStarts(CAGE + "toy 1 1 0 9;", 8, 0, 8, 1, 8);
        dueStarts(CAGE + "toy 1 2 0 9;", 8, 0, 8, 2, 4);
        dueStarts(CAGE + "toy 1 4 0 9;", 8, 0, 8, 4, 2);
        dueStarts(CAGE.replace("hole", "book") + "toy 1 4 0 9;", 8, 0, 8, 4, 2);
        dueStarts(CAGE + "book 1 1 1 1;toy 1 4 0 9;", 0, 0, 0, 0, 0);
        due("a HOLE and a BOOK less", Checks.told("hole 1 1 1 1;book 2 2 1 1;").starts(0), 8 * 62);
        due("the most", Checks.told("table 16 16;").starts(0), 2048);
        due("the least table", Checks.told("table 3 3;").starts(0), 72);
    }

    // how many are TRAPPED (a ROUND without MOVES); how many different ROUNDS they come to; the longest of these

    private static void startsInARow() {
        // to and fro is one ROUND, up and down and both slants are one each in each cell
        dueStarts(FIVE + "toy 1 4 0 9;", 40, 0, 30, 16, 10);
        dueStarts(SEVEN + "toy 1 4 0 9;", 56, 0, 42, 22, 14);
        // by turns of an eighth all come to one
        dueStarts(PAIR + "toy 1 1 0 9;", 16, 0, 0, 1, 10);
        dueStarts(FIVE + "toy 1 1 0 9;", 40, 0, 0, 1, 16);
        // by turns of two the slant ones stay
        dueStarts(FIVE + "toy 1 2 0 9;", 40, 0, 20, 6, 12);
    }

    // how many FALL

    private static void startsThatFall() {
        dueStarts(GAP + "toy 1 4 0 9;", 48, 0, 36, 20, 8);
        dueStarts(GAP + "toy 2 4 0 9;", 48, 3, 38, 20, 4);
        dueStarts("table 4 3;hole 0 0 4 1;hole 0 2 4 1;hole 2 1 1 1;toy 2 4 0 9;", 24, 4, 20, 10, 2);
        dueStarts("table 4 3;hole 0 0 4 1;hole 0 2 4 1;hole 2 1 1 1;toy 2 1 0 9;", 24, 16, 8, 1, 8);
        dueStarts("table 3 3;hole 0 0 3 1;hole 0 2 3 1;hole 1 1 1 1;toy 2 1 0 9;", 16, 16, 0, 0, 0);
    }

    private static void trappedBehindMoves() {
        // all come to a slant direction in the row, some by a move or two, and saw there
        dueStarts(FIVE + "toy 1 4 2 9;", 40, 0, 40, 15, 2);
        dueStarts(FIVE + "toy 1 4 1 9;", 40, 0, 40, 15, 2);
    }

    // rings(n): within n STEPS (0 .. 999). BAD.

    private static void ringsNumbers() {
        TinMouse x = Checks.told("table 5 3;bell 2 1;");
        CHECKS.range("rings(n)", x::rings, 0, 999, BAD);
        TinMouse none = new TinMouse();
        CHECKS.range("rings(n) of no BELL", none::rings, 0, 999, BAD);
        TinMouse over = Checks.told(CAGE + "start 0 0 0;bell 1 1;");
        due("rings(0) when OVER", over.rings(0), 8);
    }

    // how many RING within n STEPS (0 STEPS, too: on the BELL's cell)

    private static void ringsWithinSteps() {
        TinMouse five = Checks.told(FIVE + "bell 4 1;toy 1 4 0 9;");
        int[] want = {8, 9, 10, 11, 12, 13, 14, 15, 16, 16, 16};
        for (int n = 0; n < want.length; n++) {
            due("to and fro: rings(" + n + ")", five.rings(n), want[n]);
        }
        due("to and fro: rings(999)", five.rings(999), 16);
        TinMouse row = Checks.told(FIVE + "bell 0 1;toy 1 4 0 9;");
        due("a BELL on the first cell", row.rings(0), 8);
        due("from beside it", row.rings(1), 9);
        TinMouse late = Checks.told("table 12 11;toy 1 4 9 9;bell 0 7;hole 6 8 1 1;");
        due("the last but one", late.rings(998), 804);
        due("at the most", late.rings(999), 805);
        TinMouse other = Checks.told("table 15 13;toy 1 4 6 9;bell 12 9;book 3 11 1 1;");
        due("the last but one", other.rings(998), 869);
        due("at the most", other.rings(999), 870);
        due("by another order", late.rings(0), 8);
        due("and again", late.rings(999), 805);
    }

    private static void ringsOnNoBell() {
        due("no BELL", Checks.told(FIVE).rings(999), 0);
        due("a BELL under a BOOK", Checks.told(FIVE + "bell 2 1;book 2 1 1 1;toy 1 4 0 9;").rings(999), 0);
        due("a BELL in a HOLE, NOSE 1", Checks.told(GAP + "bell 4 1;toy 1 4 0 9;").rings(999), 0);
        due("no WOOD without BOOKS", Checks.told("hole 0 0 8 8;bell 1 1;").rings(999), 0);
        // a BELL at 10: from 10 itself, from 9 and from 8, 9, 7 to the right, not from behind the HOLE
        TinMouse x = Checks.told(GAP + "bell 3 1;toy 1 4 0 9;");
        due("on it", x.rings(0), 8);
        due("one STEP", x.rings(1), 9);
        due("all on its side of the HOLE to the right or left", x.rings(999), 8 + 6);
        // a start that falls has rung ahead of the fall
        TinMouse falls = Checks.told("table 9 5;toy 2 2 0 99;hole 6 2 1 1;hole 4 3 1 1;bell 4 2;");
        due("it RINGS ahead of its fall", falls.rings(0), 8);
        falls.put(3, 2, 2);
        due("it falls", falls.round(1), 0);
        falls.go(3);
        due("it rang", falls.now(8), 1);
    }

    // COMMON: the least cell that is in all ROUNDS of these

    private static void commonIsTheLeast() {
        due("one cell", Checks.told(CAGE + "toy 1 4 0 9;").common(), 4);
        due("one ROUND on 5 and 6", Checks.told(PAIR + "toy 1 1 0 9;").common(), 5);
        due("cell 0", Checks.told("table 3 3;hole 0 1 3 2;toy 1 1 0 9;").common(), 0);
        due("the last cell alone", Checks.told("table 16 16;hole 0 0 16 15;hole 0 15 15 1;").common(), 255);
        due("of two ROUNDS", Checks.told("table 5 4;toy 2 5 0 9;").common(), 6);
        due("two there are", Checks.told("table 5 4;toy 2 5 0 9;").starts(3), 2);
        due("of two ROUNDS by BEND", Checks.told("table 3 4;toy 1 2 2 9;hole 0 0 1 1;").common(), 3);
        TinMouse x = Checks.told("table 3 3;hole 0 1 3 2;toy 1 1 0 9;");
        due("cell 0 of one table", x.common(), 0);
        Checks.typeText(x, CAGE + "toy 1 1 0 9;");
        due("another table", x.table(), 6);
        due("is asked anew", x.common(), 4);
        due("of three ROUNDS, six FALL",
            Checks.told("table 5 3;toy 2 3 2 9;book 4 1 1 1;hole 3 2 1 1;book 1 0 1 1;").common(), 7);
    }

    // NONE (no ROUNDS, too)

    private static void commonIsNone() {
        due("ROUNDS apart", Checks.told(FIVE + "toy 1 4 0 9;").common(), NONE);
        due("on two sides of a HOLE", Checks.told(GAP + "toy 1 1 0 9;").common(), NONE);
        due("no STARTS", Checks.told("hole 0 0 8 8;").common(), NONE);
        TinMouse all = Checks.told("table 3 3;hole 0 0 3 1;hole 0 2 3 1;hole 1 1 1 1;toy 2 1 0 9;");
        due("all FALL", all.starts(1), 16);
        due("no ROUNDS", all.common(), NONE);
        all.toy(0, 1);
        due("by another NOSE one on either side", all.common(), NONE);
    }

    // SAFE: NOSES (bits 1, 2, 4 for 1, 2, 3) by which no START falls

    private static void safeNoses() {
        due("no HOLE", new TinMouse().safe(), 7);
        due("no STARTS", Checks.told("hole 0 0 8 8;").safe(), 7);
        due("NOSE 1 alone", Checks.told(GAP).safe(), 1);
        due("NOSE 1 and 3: one HOLE between two cells",
            Checks.told("table 3 3;hole 0 0 3 1;hole 0 2 3 1;hole 1 1 1 1;").safe(), 1 + 4);
        due("NOSE 1 and 2: two HOLES between two cells",
            Checks.told("table 4 3;hole 0 0 4 1;hole 0 2 4 1;hole 1 1 2 1;").safe(), 1 + 2);
        due("three HOLES between two cells",
            Checks.told("table 5 3;hole 0 0 5 1;hole 0 2 5 1;hole 1 1 3 1;").safe(), 7);
        for (int nose = 1; nose <= 3; nose++) {
            TinMouse x = Checks.told(GAP + "toy " + nose + " 4 0 9;");
            due("whatever NOSE it has", x.safe(), 1);
            due("its NOSE stays", x.told(2), nose);
            due("ALL STARTS are by its own", x.starts(1) > 0 ? 1 : 0, nose == 1 ? 0 : 1);
        }
    }

    // COVERS n: .. within n STEPS (0 .. 9999)

    private static void coversNumbers() {
        TinMouse x = new TinMouse();
        CHECKS.range("covers(n)", x::covers, 0, 9999, BAD);
        TinMouse over = Checks.told("hole 0 0 1 1;");
        CHECKS.range("covers(n) when OVER", over::covers, 0, 9999, BAD);
        due("covers(0) when OVER", over.covers(0), STATE);
        due("covers(9999) when OVER", over.covers(9999), STATE);
    }

    private static void coversWithinSteps() {
        TinMouse x = Checks.told(SEVEN + "toy 1 4 0 9;start 2 1 2;");
        int[] want = {1, 2, 3, 4, 5, 5, 5, 5, 5, 5, 6, 7, 7};
        for (int n = 0; n < want.length; n++) {
            due("covers(" + n + ")", x.covers(n), want[n]);
        }
        due("covers(9999)", x.covers(9999), 7);
        TinMouse late = Checks.told(LONG);
        due("all but the last cell", late.covers(5955), 217);
        due("the last cell", late.covers(5956), 218);
        due("no more", late.covers(9999), 218);
        due("turns alone", Checks.told(CAGE + "start 1 1 0;").covers(9999), 1);
        TinMouse book = Checks.told("book 0 0 1 1;");
        due("a BOOK's cell that it is on", book.covers(0), 1);
        due("and the next", book.covers(1), 2);
        x.go(4);
        due("from NOW", x.covers(0), 1);
        due("from NOW", x.covers(7), 7);
        due("from NOW, one less", x.covers(6), 6);
    }

    // (where it falls no WOOD counts)

    private static void coversAFall() {
        TinMouse x = Checks.told(STEEP);
        int[] want = {1, 2, 2, 2, 2};
        for (int n = 0; n < want.length; n++) {
            due("covers(" + n + ") of a fall at 3", x.covers(n), want[n]);
        }
        due("covers(9999) of a fall", x.covers(9999), 2);
        TinMouse at = put(GAP + "toy 2 4 0 9;", 3, 1, 2);
        due("covers(0) ahead of a fall", at.covers(0), 1);
        due("covers(1) of a fall", at.covers(1), 1);
        due("covers(9999) of a fall", at.covers(9999), 1);
    }

    // EVERYWHERE: the fewest STEPS by which it was on all WOOD without BOOKS

    private static void everywhereFewest() {
        due("from an end", Checks.told(SEVEN + "toy 1 4 0 9;start 0 1 2;").everywhere(), 6);
        due("from an end by a turn", Checks.told(SEVEN + "toy 1 4 0 9;start 0 1 6;").everywhere(), 7);
        due("from 2", Checks.told(SEVEN + "toy 1 4 0 9;start 2 1 2;").everywhere(), 11);
        due("ended", Checks.told(SEVEN + "toy 1 4 0 0;start 2 1 2;").everywhere(), 11);
        due("one cell", Checks.told(CAGE + "start 1 1 0;").everywhere(), 0);
        due("two cells", Checks.told(PAIR + "toy 1 1 0 9;start 1 1 2;").everywhere(), 1);
        due("two cells from a turn", Checks.told(PAIR + "toy 1 1 0 9;start 1 1 1;").everywhere(), 2);
        due("as late as 5956", Checks.told(LONG).everywhere(), 5956);
        // both cells without a BOOK, then a fall
        due("all of it, then a fall", Checks.told("table 9 5;hole 0 0 9 2;hole 0 2 3 1;hole 0 3 9 1;hole 0 4 4 1;"
            + "hole 5 4 4 1;hole 6 2 3 1;book 4 4 1 1;book 5 2 1 1;toy 2 2 0 9;start 3 2 2;").everywhere(), 1);
        TinMouse x = Checks.told(SEVEN + "toy 1 4 0 9;start 2 1 2;");
        x.go(3);
        due("from NOW", x.everywhere(), 1 + 1 + 6);
    }

    // (9999 at most); NONE. STATE: it is OVER.

    private static void everywhereNone() {
        due("slant cells are not reached", new TinMouse().everywhere(), NONE);
        due("the row behind the HOLE", Checks.told(GAP + "toy 1 4 0 9;start 0 1 2;").everywhere(), NONE);
        due("it falls ahead of that", put(GAP + "toy 2 4 0 9;", 3, 1, 2).everywhere(), NONE);
        due("turns alone", Checks.told(PAIR + "toy 1 4 0 9;start 1 1 0;").everywhere(), NONE);
        due("OVER", Checks.told("hole 0 0 1 1;").everywhere(), STATE);
        due("OVER without WOOD", Checks.told("hole 0 0 8 8;").everywhere(), STATE);
    }

    private static void everywhereOnBooks() {
        due("no WOOD without BOOKS", Checks.told("book 0 0 8 8;").everywhere(), 0);
        due("the START's BOOK is not asked",
            Checks.told(FIVE + "book 0 1 1 1;toy 1 4 0 9;start 0 1 2;").everywhere(), 4);
        due("nor counts for another cell",
            Checks.told(FIVE + "book 2 1 1 1;toy 1 4 0 9;start 2 1 2;").everywhere(), NONE);
        due("a BOOK at the end", Checks.told(SEVEN + "book 6 1 1 1;toy 1 4 0 9;start 2 1 2;").everywhere(), 9);
    }

    // BEST turn. BAD (n 0 .. 999)

    private static void bestNumbers() {
        TinMouse x = new TinMouse();
        CHECKS.range("best(n)", x::best, 0, 999, BAD);
        TinMouse over = Checks.told("hole 0 0 1 1;");
        CHECKS.range("best(n) when OVER", over::best, 0, 999, BAD);
        due("best(0) when OVER", over.best(0), STATE);
        due("best(999) when OVER", over.best(999), STATE);
        TinMouse late = Checks.told("table 14 7;toy 1 2 9 9;start 1 0 0;bell 10 2;book 10 2 1 1;");
        due("the last but one", late.best(998), 5);
        due("at the most", late.best(999), 4);
        TinMouse other = Checks.told("table 15 16;toy 2 4 6 9;start 4 6 6;hole 13 12 1 1;");
        due("the last but one", other.best(998), 5);
        due("at the most", other.best(999), 4);
    }

    // the TURN (1 .. 7) by which COVERS n is the most, of several the least

    private static void bestIsTheLeast() {
        due("no STEPS: all alike", new TinMouse().best(0), 1);
        due("no turn: all alike", new TinMouse().best(7), 1);
        due("in a cage: all alike", Checks.told(CAGE + "start 1 1 0;toy 1 7 0 9;").best(999), 1);
        int[][] way = {{1, 0}, {2, 0}, {2, 1}, {2, 2}, {1, 2}, {0, 2}, {0, 1}, {0, 0}};
        for (int turn = 1; turn <= 7; turn++) {
            for (int second = turn; second <= 7; second++) {
                StringBuilder text = new StringBuilder("table 3 3;start 1 1 0;");
                for (int d = 0; d <= 7; d++) {
                    if (d != turn && d != second) {
                        text.append("hole ").append(way[d][0]).append(' ').append(way[d][1]).append(" 1 1;");
                    }
                }
                TinMouse x = Checks.told(text.toString());
                due("moves on by " + turn + " or " + second, x.best(2), turn);
                due("its TURN stays", x.told(3), 3);
            }
        }
    }

    // STATE: it is OVER

    private static void overIsState() {
        TinMouse x = put(GAP + "toy 2 4 0 9;", 3, 1, 2);
        due("ahead of the fall", x.covers(0), 1);
        x.go(1);
        due("OVER", x.now(4), 2);
        dueRound("OVER", x, STATE, STATE, STATE, STATE);
        due("covers(0)", x.covers(0), STATE);
        due("everywhere()", x.everywhere(), STATE);
        due("best(0)", x.best(0), STATE);
        due("meet(0, 1, 2)", x.meet(0, 1, 2), STATE);
        due("drawn(0)", x.drawn(0), STATE);
        due("no draw", x.lot(1), 1);
        due("starts(0) is no matter of NOW", x.starts(0), 48);
        due("rings(0), too", x.rings(0), 0);
        due("common(), too", x.common(), NONE);
        due("safe(), too", x.safe(), 1);
        due("fits(0), too", x.fits(0), 560);
    }

    private static void endedIsNoState() {
        TinMouse x = Checks.told(SEVEN + "toy 1 4 0 0;start 0 1 2;");
        due("ENDED", x.now(4), 1);
        dueRound("ENDED", x, 0, 14, 12, 7);
        due("covers(6)", x.covers(6), 7);
        due("everywhere()", x.everywhere(), 6);
        due("best(6)", x.best(6), 1);
        due("meet(6, 1, 6)", x.meet(6, 1, 6), 3);
        due("drawn(6)", x.drawn(6), 7);
    }

    // A TRACK: how many there are. BAD

    private static void trackNumbers() {
        int[][] sizes = {{3, 3}, {8, 8}, {3, 16}, {16, 3}, {16, 16}};
        for (int[] size : sizes) {
            TinMouse x = Checks.told("table " + size[0] + " " + size[1] + ";");
            CHECKS.range("track(cell) of " + size[0] + " " + size[1], x::track, 0, size[0] * size[1] - 1, BAD);
            due("two were taken", x.count(3), 2);
        }
        TinMouse x = Checks.told("hole 1 1 1 1;book 2 2 1 1;");
        due("a HOLE", x.track(9), 1);
        due("a BOOK", x.track(18), 2);
        due("it again", x.track(18), 3);
    }

    // TRACKS (16 at most): FULL

    private static void trackIsFull() {
        TinMouse x = new TinMouse();
        for (int i = 1; i <= 16; i++) {
            due("the TRACK " + i, x.track(63), i);
        }
        due("the 17th", x.track(63), FULL);
        due("again", x.track(0), FULL);
        due("a 17th beyond the table: BAD is ahead of FULL", x.track(64), BAD);
        due("a 17th below 0: BAD is ahead of FULL", x.track(-1), BAD);
        due("there are", x.count(3), 16);
        due("wipe()", x.wipe(), 16);
        due("there is room", x.track(5), 1);
    }

    // No TRACKS: how many there were

    private static void wipeAll() {
        TinMouse x = new TinMouse();
        due("wipe() of none", x.wipe(), 0);
        x.track(9);
        due("wipe() of one", x.wipe(), 1);
        due("wipe() again", x.wipe(), 0);
        due("none", x.count(3), 0);
        x.track(0);
        x.track(8);
        x.wipe();
        x.track(9);
        due("no old TRACK is asked", x.fits(0), 560);
        x.track(10);
        due("only the new ones", x.fits(1), 102);
    }

    // 560, if fewer than two are told

    private static void fitsFewerThanTwo() {
        TinMouse x = new TinMouse();
        CHECKS.range("fits(what)", x::fits, 0, 1, BAD);
        due("none told", x.fits(0), 560);
        due("none told: the first", x.fits(1), 100);
        x.track(9);
        due("one told", x.fits(0), 560);
        due("one told: the first", x.fits(1), 100);
        x.track(9);
        due("two told that are not gone so", x.fits(0), 0);
        due("two told: NONE", x.fits(1), NONE);
        CHECKS.range("fits(what) of none that fit", x::fits, 0, 1, BAD);
        TinMouse hole = Checks.told("hole 0 0 8 8;");
        due("no WOOD, none told", hole.fits(0), 560);
        hole.track(3);
        due("no WOOD, one told", hole.fits(0), 560);
        hole.track(3);
        due("no WOOD, two told", hole.fits(0), 0);
    }

    // TURNS 1 .. 7, BENDS 0 .. 9, directions 0 .. 7 .. the first of them (100 TURN, 10 BEND and direction)

    private static void fitsLeastAndMost() {
        TinMouse cage = Checks.told(CAGE);
        cage.track(4);
        cage.track(4);
        due("in a cage all go so", cage.fits(0), 560);
        due("the first of all", cage.fits(1), 100);
        for (int d = 0; d <= 7; d++) {
            int[] way = {-9, -8, 1, 10, 9, 8, -1, -10};
            TinMouse x = Checks.told("table 9 9;");
            x.track(40);
            x.track(40 + way[d]);
            due("a move to " + d, x.fits(0), 70);
            due("the first of a move to " + d, x.fits(1), 100 + d);
            x.track(40 + 2 * way[d]);
            due("two moves to " + d, x.fits(0), 63);
            x.track(40 + 2 * way[d] + way[(d + 1) % 8]);
            due("bent by the second", x.fits(0), 7);
            due("the first bent by the second", x.fits(1), 120 + d);
        }
        TinMouse wide = wideTracks(-1);
        due("TURN 7, BEND 9, direction 7 alone", wide.fits(0), 1);
        due("its number", wide.fits(1), 797);
    }

    /** Two cells of WOOD: from the first a turn, then a move, once for each way and each of its seven TURNS. */
    private static void fitsEachTurn() {
        int[][] way = {{1, 0}, {2, 0}, {2, 1}, {2, 2}, {1, 2}, {0, 2}, {0, 1}, {0, 0}};
        for (int to = 0; to <= 7; to++) {
            StringBuilder text = new StringBuilder("table 3 3;");
            for (int d = 0; d <= 7; d++) {
                if (d != to) {
                    text.append("hole ").append(way[d][0]).append(' ').append(way[d][1]).append(" 1 1;");
                }
            }
            TinMouse x = Checks.told(text.toString());
            x.track(4);
            x.track(4);
            x.track(3 * way[to][1] + way[to][0]);
            due("a turn, then a move to " + to, x.fits(0), 70);
            due("the first: a TURN of 1", x.fits(1), 100 + (to + 7) % 8);
        }
    }

    /**
     * From 9 9 up and left into the corner by nine moves, bent there to 0, turned by 7 to 7, 6, 5 and 4, two moves
     * down; one of them may be made another.
     */
    private static TinMouse wideTracks(int other) {
        TinMouse x = Checks.told("table 10 10;toy 1 3 0 0;");
        int[] cells = {99, 88, 77, 66, 55, 44, 33, 22, 11, 0, 0, 0, 0, 0, 10, 20};
        for (int i = 0; i < cells.length; i++) {
            x.track(i == other ? cells[i] ^ 1 : cells[i]);
        }
        return x;
    }

    // cells on which it was seen STEP by STEP

    private static void fitsEachTrack() {
        for (int i = 0; i < 16; i++) {
            TinMouse x = wideTracks(i);
            due("another TRACK " + i, x.fits(0), 0);
            due("another TRACK " + i + ": NONE", x.fits(1), NONE);
        }
        TinMouse x = new TinMouse();
        x.track(7);
        x.track(7);
        due("a turn in the corner from 0, 1, 2, 3, 7", x.fits(0), 5 * 70);
        due("the first", x.fits(1), 100);
        x.track(15);
        due("then down", x.fits(0), 50);
        due("the first", x.fits(1), 103);
    }

    // the first cell WOOD

    private static void fitsFirstCellWood() {
        TinMouse hole = Checks.told("hole 3 3 1 1;");
        hole.track(27);
        hole.track(28);
        due("the first on a HOLE", hole.fits(0), 0);
        due("the first on a HOLE: NONE", hole.fits(1), NONE);
        TinMouse book = Checks.told("book 3 3 1 1;");
        book.track(27);
        book.track(28);
        due("the first on a BOOK", book.fits(0), 70);
        TinMouse both = Checks.told("hole 3 3 1 1;book 3 3 1 1;");
        both.track(27);
        both.track(28);
        due("the first on a BOOK on a HOLE", both.fits(0), 0);
        TinMouse onto = Checks.told("book 4 3 1 1;");
        onto.track(27);
        onto.track(28);
        due("the second on a BOOK", onto.fits(0), 0);
    }

    // and do not fall

    private static void fitsDoNotFall() {
        TinMouse x = Checks.told(GAP + "toy 2 4 0 9;");
        x.track(10);
        x.track(11);
        due("into the HOLE", x.fits(0), 0);
        due("into the HOLE: NONE", x.fits(1), NONE);
        x.wipe();
        x.track(9);
        x.track(9);
        due("it may fall behind the last", x.fits(0) > 0 ? 1 : 0, 1);
        TinMouse steep = Checks.told(STEEP);
        steep.track(21);
        steep.track(22);
        steep.track(22);
        due("ahead of the fall", steep.fits(0) > 0 ? 1 : 0, 1);
        steep.track(31);
        due("with the fall", steep.fits(0), 0);
    }

    // (NOSE as it is, an endless spring ..)

    private static void fitsAsToyIs() {
        TinMouse x = Checks.told("table 7 3;toy 1 4 0 0;");
        x.track(7);
        x.track(8);
        x.track(9);
        x.track(10);
        x.track(11);
        x.track(12);
        due("NOSE 1: BEND 0 or 5 at least", x.fits(0), 42);
        x.toy(0, 2);
        due("NOSE 2, as far as it moves", x.fits(0), 42);
        x.track(13);
        due("NOSE 2 to the edge", x.fits(0), 0);
        x.toy(0, 1);
        due("NOSE 1 to the edge: BEND 0 or 6 at least", x.fits(0), 35);
        x.toy(1, 7);
        x.toy(2, 9);
        due("whatever TURN and BEND it has", x.fits(0), 35);
        due("TURN stays", x.told(3), 7);
        due("BEND stays", x.told(4), 9);
    }

    // meet(x, y, d): BAD (no WOOD, a BOOK, too); STATE: it is OVER

    private static void meetNumbers() {
        TinMouse x = Checks.told("table 6 5;hole 0 0 1 1;book 5 4 1 1;start 2 2 2;");
        CHECKS.range("meet(x, 2, 0)", v -> x.meet(v, 2, 0), 0, 5, BAD);
        CHECKS.range("meet(2, y, 0)", v -> x.meet(2, v, 0), 0, 4, BAD);
        CHECKS.range("meet(2, 2, d)", v -> x.meet(2, 2, v), 0, 7, BAD);
        due("on a HOLE", x.meet(0, 0, 0), BAD);
        due("on a BOOK", x.meet(5, 4, 0), BAD);
        TinMouse over = Checks.told("table 6 5;hole 0 0 1 1;book 5 4 1 1;");
        due("OVER", over.meet(2, 2, 0), STATE);
        due("OVER, on a HOLE: BAD is ahead of STATE", over.meet(0, 0, 0), BAD);
        due("OVER, on a BOOK: BAD is ahead of STATE", over.meet(5, 4, 0), BAD);
        due("OVER, beyond: BAD is ahead of STATE", over.meet(6, 2, 0), BAD);
        due("OVER, direction 8: BAD is ahead of STATE", over.meet(2, 2, 8), BAD);
        due("OVER, direction -1: BAD is ahead of STATE", over.meet(2, 2, -1), BAD);
    }

    // the fewest STEPS (0 .. 4096)

    private static void meetAtOnce() {
        TinMouse x = Checks.told(SEVEN + "toy 1 4 0 9;start 2 1 2;");
        for (int d = 0; d <= 7; d++) {
            due("on its own cell to " + d, x.meet(2, 1, d), 0);
        }
        due("head on, one STEP each", x.meet(4, 1, 6), 1);
        due("head on, two STEPS each", x.meet(6, 1, 6), 2);
        due("onto one that turns there", x.meet(3, 1, 0), 1);
        due("they pass one another", x.meet(3, 1, 6), NONE);
        due("the same way, one ahead, till it turns", x.meet(3, 1, 2), 4);
        due("the same way, two ahead, passed at the end", x.meet(4, 1, 2), NONE);
    }

    private static void meetAtTheMost() {
        String wide = "table 14 16;book 5 14 1 1;book 3 1 1 1;toy 1 5 1 9;";
        due("after 4096", Checks.told(wide + "start 12 6 7;").meet(0, 10, 7), 4096);
        due("after 4097", Checks.told(wide + "start 13 6 6;").meet(1, 10, 6), NONE);
        due("never", Checks.told(SEVEN + "toy 1 4 0 9;start 2 1 0;").meet(3, 1, 0), NONE);
    }

    // after which both are on one cell, and neither fell; NONE

    private static void meetNeitherFell() {
        TinMouse both = put(GAP + "toy 2 4 0 9;", 3, 1, 2);
        due("both fall into one HOLE at once", both.meet(5, 1, 6), NONE);
        due("it falls, the other one later", both.meet(5, 1, 2), NONE);
        due("on its own cell ahead of the fall", both.meet(3, 1, 2), 0);
        due("it falls, the other one does not", both.meet(2, 1, 2), NONE);
        TinMouse other = put(GAP + "toy 2 4 0 9;", 2, 1, 2);
        due("the other one falls, it comes to its cell later", other.meet(3, 1, 2), NONE);
        TinMouse ahead = Checks.told(STEEP);
        due("ahead of its fall they meet", ahead.meet(4, 2, 2), 1);
    }

    // both by one from NOW on, by endless springs; BENT 0, the same toy

    private static void meetByOneStepEach() {
        TinMouse x = put("table 9 9;toy 1 4 2 1;", 3, 4, 2);
        x.go(1);
        due("BENT 1, ENDED", x.now(2) + x.now(4), 2);
        // it goes to 5 4, bent, then to 6 5; the other one to 6 6, then, bent to the right, back
        due("the other one is not bent", x.meet(6, 7, 0), 2);
        due("from above, head on", x.meet(5, 3, 4), 1);
        due("asking moves nothing", x.now(0), 40);
        TinMouse nose = put(SEVEN + "toy 2 4 0 9;", 2, 1, 2);
        due("the same NOSE: it turns a cell ahead of the edge", nose.meet(5, 1, 2), 2);
        nose.toy(0, 1);
        due("by NOSE 1", nose.meet(5, 1, 2), 3);
    }

    // drawn(n): BAD (n 0 .. 999); STATE: it is OVER

    private static void drawnNumbers() {
        TinMouse x = new TinMouse();
        CHECKS.range("drawn(n)", x::drawn, 0, 999, BAD);
        TinMouse over = Checks.told("hole 0 0 1 1;");
        CHECKS.range("drawn(n) when OVER", over::drawn, 0, 999, BAD);
        due("drawn(0) when OVER", over.drawn(0), STATE);
        due("drawn(999) when OVER", over.drawn(999), STATE);
        due("no draw by a refusal", over.lot(5), 1);
    }

    // DRAWN n: COVERS n

    private static void drawnWithinSteps() {
        TinMouse x = Checks.told("table 16 3;start 0 1 2;");
        for (int n = 0; n <= 15; n++) {
            due("drawn(" + n + ") without a turn", x.drawn(n), n + 1);
        }
        due("no draw yet", x.lot(1), 1);
        due("drawn(16): the turn is the last STEP", x.drawn(16), 16);
        due("one draw", x.lot(1), next(1));
        TinMouse late = Checks.told("table 14 15;toy 1 5 8 9;start 9 10 4;hole 13 14 1 1;book 6 11 1 1;");
        late.lot(-470744311);
        due("the last but one", late.drawn(998), 194);
        late.lot(-470744311);
        due("at the most", late.drawn(999), 195);
    }

    private static int next(int lot) {
        return (int) (lot * 1103515245L + 12345);
    }

    // where each TURN is 1 and DRAW instead (THE LOT goes on, times 1103515245 and 12345, wrapped ..)

    private static void drawOnceATurn() {
        TinMouse x = Checks.told(CAGE + "start 1 1 0;toy 1 1 0 0;");
        int lot = 1;
        for (int n = 0; n <= 40; n++) {
            due("drawn(" + n + ") in a cage", x.drawn(n), 1);
            for (int i = 0; i < n; i++) {
                lot = next(lot);
            }
            due("THE LOT behind it", x.lot(lot), lot);
        }
        due("drawn(999) in a cage", x.drawn(999), 1);
        for (int i = 0; i < 999; i++) {
            lot = next(lot);
        }
        due("999 draws", x.lot(7), lot);
        TinMouse books = Checks.told(CAGE.replace("hole", "book") + "start 1 1 0;");
        books.drawn(3);
        due("STRUCK turns are drawn, too", books.lot(1), next(next(next(1))));
        due("TURN stays", books.told(3), 3);
        for (int d : new int[] {0, 1, 7}) {
            TinMouse corner = put("table 3 3;", 0, 0, d);
            corner.drawn(1);
            due("a turn on cell 0 from " + d, corner.lot(1), next(1));
        }
        due("no turn of NOW", books.now(7), 0);
        for (int ahead : new int[] {0, -1, Integer.MAX_VALUE, Integer.MIN_VALUE, 1 << 16, -12345}) {
            TinMouse y = Checks.told(CAGE + "start 1 1 0;");
            y.lot(ahead);
            y.drawn(1);
            due("THE LOT goes on from " + ahead, y.lot(1), next(ahead));
        }
    }

    // DRAW: its upper 16 bits, as a number from 0 on, left over by 7

    private static void drawLeftOver() {
        int[] uppers = {0, 1, 2, 3, 4, 5, 6, 7, 8, 13, 14, 32766, 32767, 32768, 32769, 65533, 65534, 65535};
        for (int upper : uppers) {
            for (int lower : new int[] {0, 1, 32767, 32768, 65535}) {
                due("the TURN by " + upper + " above " + lower, turnByLot(upper << 16 | lower), 1 + upper % 7);
            }
        }
    }

    /** By how much it turns first, when THE LOT goes on to a number: all but one cell beside it are HOLES. */
    private static int turnByLot(int to) {
        int[][] way = {{1, 0}, {2, 0}, {2, 1}, {2, 2}, {1, 2}, {0, 2}, {0, 1}, {0, 0}};
        for (int turn = 1; turn <= 7; turn++) {
            StringBuilder text = new StringBuilder("table 3 3;start 1 1 0;");
            for (int d = 0; d <= 7; d++) {
                if (d != turn) {
                    text.append("hole ").append(way[d][0]).append(' ').append(way[d][1]).append(" 1 1;");
                }
            }
            TinMouse x = Checks.told(text.toString());
            x.lot(lotAheadOf(to));
            if (x.drawn(2) == 2) {
                return turn;
            }
        }
        return NONE;
    }

    /** The lot that goes on to a number: by the inverse of the factor, modulo 2 to the 32. */
    private static int lotAheadOf(int to) {
        int inverse = 1103515245;
        for (int i = 0; i < 5; i++) {
            inverse *= 2 - 1103515245 * inverse;
        }
        return (to - 12345) * inverse;
    }

    private static void drawnAFall() {
        TinMouse x = put(GAP + "toy 2 4 0 9;", 3, 1, 2);
        due("drawn(0) ahead of a fall", x.drawn(0), 1);
        due("drawn(1) of a fall", x.drawn(1), 1);
        due("drawn(999) of a fall", x.drawn(999), 1);
        due("no draw behind it", x.lot(1), 1);
        // a move, a turn by 2 (the draw is 1), a fall
        TinMouse steep = Checks.told(STEEP);
        int ahead = lotAheadOf(1 << 16);
        int[] want = {1, 2, 2, 2, 2};
        for (int n = 0; n < want.length; n++) {
            steep.lot(ahead);
            due("drawn(" + n + ") of a fall at 3", steep.drawn(n), want[n]);
            due("draws", steep.lot(0), n < 2 ? ahead : 1 << 16);
        }
    }

    // THE LOT becomes v: what it was. THE LOT is 1.

    private static void lotIsAnyNumber() {
        TinMouse x = new TinMouse();
        int was = 1;
        for (int v : new int[] {Integer.MIN_VALUE, -1, 0, 1, Integer.MAX_VALUE, BAD, STATE, FULL, NONE, 7}) {
            due("lot(" + v + ")", x.lot(v), was);
            was = v;
        }
        x.anew();
        due("anew() leaves it", x.lot(8), 7);
        x.table();
        due("table() leaves it", x.lot(9), 8);
        x.keep(0);
        x.lot(10);
        due("back() brings it", x.back(0), 0);
        due("THE LOT kept", x.lot(11), 9);
    }
}
