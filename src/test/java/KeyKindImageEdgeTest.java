/**
 * Terms, part 4, and promises 27 to 34: each sentence about KEYS, the round table, KINDS and IMAGES that names a
 * boundary, on both sides of it. The sentence stands above its test.
 */
public final class KeyKindImageEdgeTest {
    private static final int BAD = -1, STATE = -2, FULL = -3, NONE = -9, NO = -1000000;
    /** One cell of WOOD with HOLES about it: each step is a turn. */
    private static final String CAGE = "table 3 3;hole 0 0 3 1;hole 0 2 3 1;hole 0 1 1 1;hole 2 1 1 1;start 1 1 0;";
    private static final int[] ADDED = {1, 11, 101, 1011, 10101, 100001};
    private static final Checks CHECKS = new Checks();

    private static void due(String call, long got, long want) {
        CHECKS.due(call, got, want);
    }

    public static void main(String[] args) {
        keyNumbers();
        keyIsFull();
        lawNumbers();
        lawOfNone();
        lawOfAlike();
        lawInLeastTerms();
        lawOfTurns();
        lawOfTheMost();
        circleNumbers();
        circleCounts();
        rateNumbers();
        rateOfNoTurn();
        rateOfEachKind();
        rateIsNow();
        traceEachOnce();
        traceGoesOn();
        imageNumbers();
        backOfNone();
        imagesOfTwo();
        imageIsKept();
        imageOfOverAndEnded();
        imageOfNothingElse();
        countNumbers();
        constants();
        CHECKS.end();
    }

    // KEYS: turns of the key (1 .. 9), STEPS by them (0 .. 999). BAD

    private static void keyNumbers() {
        TinMouse x = new TinMouse();
        CHECKS.range("key(turns, 0)", v -> x.key(v, 0), 1, 9, BAD);
        CHECKS.range("key(1, steps)", v -> x.key(1, v), 0, 999, BAD);
        due("four were taken", x.count(4), 4);
        due("key(0, 1000)", x.key(0, 1000), BAD);
        due("key(9, 999)", x.key(9, 999), 5);
        for (int turns = 1; turns <= 9; turns++) {
            due("key(" + turns + ", 1)", x.key(turns, 1), 5 + turns);
        }
    }

    // KEYS (20 at most): FULL

    private static void keyIsFull() {
        TinMouse x = new TinMouse();
        for (int i = 1; i <= 19; i++) {
            due("the KEY " + i, x.key(1, 0), i);
        }
        due("all alike", x.law(0, 0), NO);
        due("the 20th", x.key(2, 40), 20);
        due("the 20th counts", x.law(0, 0), 40);
        due("the 21st", x.key(3, 0), FULL);
        due("a 21st of 0 turns: BAD is ahead of FULL", x.key(0, 0), BAD);
        due("a 21st of 10 turns: BAD is ahead of FULL", x.key(10, 0), BAD);
        due("a 21st of -1 STEPS: BAD is ahead of FULL", x.key(1, -1), BAD);
        due("a 21st of 1000 STEPS: BAD is ahead of FULL", x.key(1, 1000), BAD);
        due("there are", x.count(4), 20);
        due("the 21st counts not", x.law(0, 0), 40);
        x.table();
        x.anew();
        due("they stay", x.count(4), 20);
        due("and are full", x.key(3, 0), FULL);
    }

    // law(t, what): t turns (0 .. 99); NO: BAD

    private static void lawNumbers() {
        TinMouse x = new TinMouse();
        x.key(1, 0);
        x.key(2, 7);
        for (int what = 0; what <= 3; what++) {
            int of = what;
            CHECKS.range("law(t, " + what + ")", t -> x.law(t, of), 0, 99, NO);
        }
        CHECKS.range("law(0, what)", what -> x.law(0, what), 0, 3, NO);
        CHECKS.range("law(99, what)", what -> x.law(99, what), 0, 3, NO);
        due("of 0 turns", x.law(0, 2), -7);
        due("of 99 turns", x.law(99, 2), 7 * 98);
        due("law(0, 3)", x.law(0, 3), 1);
        due("the slope is of no t", x.law(99, 0), 7);
    }

    // (STATE: all turns are alike, or none)

    private static void lawOfNone() {
        TinMouse x = new TinMouse();
        for (int what = 0; what <= 3; what++) {
            due("no KEYS: law(5, " + what + ")", x.law(5, what), NO);
        }
    }

    private static void lawOfAlike() {
        for (int turns = 1; turns <= 9; turns++) {
            TinMouse x = new TinMouse();
            for (int i = 0; i < 3; i++) {
                x.key(turns, 100 * i);
                for (int what = 0; what <= 3; what++) {
                    due("turns alike, " + turns + ": law(" + turns + ", " + what + ")", x.law(turns, what), NO);
                }
            }
            x.key(turns == 9 ? 1 : 9, 0);
            due("one other: the lower number", x.law(turns, 1) > 0 ? 1 : 0, 1);
        }
        TinMouse two = new TinMouse();
        two.key(4, 9);
        two.key(5, 9);
        due("two turns, STEPS alike: the slope", two.law(0, 0), 0);
        due("its lower number", two.law(0, 1), 1);
        due("of 99 turns", two.law(99, 2), 9);
    }

    private static void dueLaw(TinMouse x, int t, int... want) {
        for (int what = 0; what <= 3; what++) {
            due("law(" + t + ", " + what + ")", x.law(t, what), want[what]);
        }
    }

    // in least terms

    private static void lawInLeastTerms() {
        // means 2 and 2 thirds, a slope of a half
        TinMouse x = new TinMouse();
        x.key(1, 0);
        x.key(2, 1);
        x.key(3, 1);
        dueLaw(x, 0, 1, 2, -1, 3);
        dueLaw(x, 1, 1, 2, 1, 6);
        dueLaw(x, 2, 1, 2, 2, 3);
        dueLaw(x, 5, 1, 2, 13, 6);
        dueLaw(x, 99, 1, 2, 295, 6);
        TinMouse down = new TinMouse();
        down.key(2, 30);
        down.key(8, 14);
        dueLaw(down, 0, -8, 3, 106, 3);
        dueLaw(down, 2, -8, 3, 30, 1);
        dueLaw(down, 5, -8, 3, 22, 1);
        dueLaw(down, 99, -8, 3, -686, 3);
        TinMouse whole = new TinMouse();
        whole.key(2, 6);
        whole.key(4, 12);
        dueLaw(whole, 0, 3, 1, 0, 1);
        dueLaw(whole, 4, 3, 1, 12, 1);
        TinMouse zero = new TinMouse();
        zero.key(1, 0);
        zero.key(9, 0);
        dueLaw(zero, 50, 0, 1, 0, 1);
    }

    // what is told of t turns: the mean of STEPS and slope times (t less the mean of turns)

    private static void lawOfTurns() {
        TinMouse x = new TinMouse();
        x.key(1, 10);
        x.key(3, 50);
        x.key(3, 30);
        x.key(5, 70);
        // means 3 and 40, a slope of 15
        for (int t = 0; t <= 99; t++) {
            dueLaw(x, t, 15, 1, 40 + 15 * (t - 3), 1);
        }
        x.key(3, 40);
        dueLaw(x, 3, 15, 1, 40, 1);
    }

    private static void lawOfTheMost() {
        TinMouse x = new TinMouse();
        for (int i = 0; i < 19; i++) {
            x.key(1, 999);
        }
        x.key(9, 0);
        dueLaw(x, 0, -999, 8, 8991, 8);
        dueLaw(x, 1, -999, 8, 999, 1);
        dueLaw(x, 99, -999, 8, -44955, 4);
        TinMouse steep = new TinMouse();
        for (int i = 0; i < 10; i++) {
            steep.key(8, 0);
            steep.key(9, 999);
        }
        dueLaw(steep, 0, 999, 1, -7992, 1);
        dueLaw(steep, 99, 999, 1, 90909, 1);
    }

    // CIRCLE (0 <= p, 1 <= q <= 360, p below q)

    private static void circleNumbers() {
        TinMouse x = new TinMouse();
        CHECKS.range("circle(0, q)", q -> x.circle(0, q), 1, 360, BAD);
        for (int q = 1; q <= 360; q++) {
            int of = q;
            CHECKS.range("circle(p, " + q + ")", p -> x.circle(p, of), 0, q - 1, BAD);
        }
        due("circle(1, 361)", x.circle(1, 361), BAD);
        due("circle(-1, 0)", x.circle(-1, 0), BAD);
        due("circle(0, 0)", x.circle(0, 0), BAD);
        due("circle(-2, -1)", x.circle(-2, -1), BAD);
    }

    // each way across goes on by twice that: how many edge places there are

    private static void circleCounts() {
        TinMouse x = new TinMouse();
        for (int q = 1; q <= 360; q++) {
            for (int p = 0; p < q; p++) {
                int places = 1;
                for (int at = 2 * p % q; at != 0; at = (at + 2 * p) % q) {
                    places++;
                }
                due("circle(" + p + ", " + q + ")", x.circle(p, q), places);
            }
        }
    }

    // rate(kind): NO: BAD

    private static void rateNumbers() {
        TinMouse x = Checks.told(CAGE);
        x.go(3);
        CHECKS.range("rate(kind)", x::rate, 0, 5, NO);
        due("only those taken are in THE TRACE", x.trace(), ADDED[0] + ADDED[5]);
    }

    // .. or there was no turn

    private static void rateOfNoTurn() {
        TinMouse x = Checks.told("table 9 3;start 5 0 2;");
        for (int steps = 0; steps <= 3; steps++) {
            for (int kind = 0; kind <= 5; kind++) {
                due("no turn, " + steps + " moves: rate(" + kind + ")", x.rate(kind), NO);
            }
            due("no turn: trace()", x.trace(), 0);
            if (steps < 3) {
                x.go(1);
            }
        }
        x.go(1);
        due("a turn: rate(0)", x.rate(0), 1);
        x.anew();
        due("no turn anew: rate(0)", x.rate(0), NO);
        due("trace()", x.trace(), 1);
        x.go(4);
        x.put(0, 0, 2);
        due("put() leaves the turn: rate(0)", x.rate(0), 1);
        x.table();
        due("no turn in a table read anew: rate(0)", x.rate(0), NO);
    }

    // TURN how many turns (1). SLANTING up, and the direction NOW (10). SQUARE up, and NOSE (100). CORNERED twice up ..

    private static void rateOfEachKind() {
        TinMouse x = Checks.told(CAGE + "toy 3 3 0 99;");
        int direction = 0;
        for (int turns = 1; turns <= 9; turns++) {
            x.go(1);
            direction = (direction + 3) % 8;
            int[] want = {turns, turns + direction, turns + 3, 2 * (turns + direction), turns + 3 + turns, turns};
            for (int kind = 0; kind <= 5; kind++) {
                due("turn " + turns + ": rate(" + kind + ")", x.rate(kind), want[kind]);
            }
        }
        // of whatever sort the latest turn is: here SQUARE, one in a row, behind 7 moves
        TinMouse square = new TinMouse();
        square.go(8);
        due("the latest is SQUARE", square.now(9), 2);
        int[] want = {1, 1 + 5, 1 + 1, 2 * (1 + 5), 1 + 1 + 1, 1 - 7};
        for (int kind = 0; kind <= 5; kind++) {
            due("as if of a KIND: rate(" + kind + ")", square.rate(kind), want[kind]);
        }
        TinMouse struck = Checks.told("book 3 0 1 1;");
        struck.go(3);
        due("the latest is STRUCK", struck.now(9), 5);
        due("rate(5)", struck.rate(5), 1 - 2);
        due("rate(3)", struck.rate(3), 2 * (1 + 5));
    }

    private static void rateIsNow() {
        TinMouse x = new TinMouse();
        x.go(8);
        due("one in a row", x.rate(4), 1 + 1 + 1);
        x.go(1);
        due("none in a row behind a move", x.rate(4), 1 + 1);
        due("MOVES NOW", x.rate(5), 1 - 8);
        x.put(3, 3, 7);
        due("the direction NOW", x.rate(1), 1 + 7);
        x.put(3, 3, 0);
        due("the direction 0", x.rate(1), 1);
        x.toy(0, 3);
        due("NOSE as it is", x.rate(2), 1 + 3);
        x.toy(1, 7);
        x.toy(2, 7);
        due("no other number of the toy", x.rate(4), 1 + 3);
    }

    // numbers in brackets are added to THE TRACE .. each once

    private static void traceEachOnce() {
        due("at first", new TinMouse().trace(), 0);
        for (int kind = 0; kind <= 5; kind++) {
            TinMouse x = Checks.told(CAGE);
            x.go(4);
            long trace = 0;
            for (int i = 0; i < 3; i++) {
                x.rate(kind);
                trace += ADDED[kind];
                due("trace() behind rate(" + kind + ")", x.trace(), trace);
            }
            due("asked again", x.trace(), trace);
        }
        TinMouse most = Checks.told(CAGE);
        most.go(4);
        for (int i = 0; i < 500; i++) {
            most.rate(5);
        }
        due("500 of the most", most.trace(), 500L * ADDED[5]);
    }

    // THE TRACE goes on, as behind back()

    private static void traceGoesOn() {
        TinMouse x = Checks.told(CAGE);
        x.go(4);
        x.keep(0);
        x.rate(3);
        x.back(0);
        due("behind back()", x.trace(), 1011);
        x.anew();
        due("behind anew()", x.trace(), 1011);
        x.put(1, 1, 0);
        x.wipe();
        x.clear();
        due("behind put(), wipe() and clear()", x.trace(), 1011);
        x.table();
        due("behind table()", x.trace(), 1011);
        x.go(8);
        x.rate(0);
        due("and goes on", x.trace(), 1012);
    }

    // IMAGES 0, 1: keep(image) .. STEPS. BAD. back(image) .. BAD

    private static void imageNumbers() {
        TinMouse x = new TinMouse();
        CHECKS.range("keep(image)", x::keep, 0, 1, BAD);
        CHECKS.range("back(image)", x::back, 0, 1, BAD);
        TinMouse none = new TinMouse();
        for (int image : new int[] {-1, 2, 3, NONE, Integer.MIN_VALUE, Integer.MAX_VALUE}) {
            due("back(" + image + ") of none: BAD is ahead of STATE", none.back(image), BAD);
        }
    }

    // STATE: none was kept

    private static void backOfNone() {
        for (int kept = 0; kept <= 1; kept++) {
            TinMouse x = new TinMouse();
            due("back(" + kept + ") of none", x.back(kept), STATE);
            x.go(3);
            due("keep(" + kept + ")", x.keep(kept), 3);
            x.go(2);
            due("the other one was not kept", x.back(1 - kept), STATE);
            due("STEPS stay", x.now(5), 5);
            due("back(" + kept + ")", x.back(kept), 3);
            due("STEPS", x.now(5), 3);
            due("back(" + kept + ") again", x.back(kept), 3);
            x.anew();
            due("behind anew()", x.back(kept), 3);
            x.clear();
            x.table();
            due("gone in a table read anew", x.back(kept), STATE);
            Checks.typeText(x, "?");
            x.keep(kept);
            due("a faulty text", x.table(), -10);
            due("leaves it", x.back(kept), 0);
        }
    }

    private static void imagesOfTwo() {
        TinMouse x = new TinMouse();
        x.go(3);
        x.keep(0);
        x.go(4);
        x.keep(1);
        x.go(5);
        due("back(0)", x.back(0), 3);
        due("its cell", x.now(0), 3);
        due("back(1)", x.back(1), 7);
        due("its cell", x.now(0), 7);
        x.go(1);
        due("keep(0) again", x.keep(0), 8);
        due("back(1)", x.back(1), 7);
        due("back(0): what was kept last", x.back(0), 8);
        x.keep(1);
        due("both alike", x.back(1), 8);
    }

    // NOW (cell, direction, BENT, SPRING left, STEPS, MOVES, turns, RINGS, the latest turn, how many in a row), THE LOT

    private static void imageIsKept() {
        TinMouse x = Checks.told("table 5 4;toy 1 1 3 300;bell 4 2;start 0 0 2;");
        x.lot(44);
        int[] rows = new int[60];
        int[][] all = new int[60][10];
        for (int steps = 0; steps < 60; steps++) {
            for (int what = 0; what < 10; what++) {
                all[steps][what] = x.now(what);
            }
            rows[steps] = Whole.rowOf(x);
            due("keep(1)", x.keep(1), steps);
            x.lot(-steps);
            x.put(1, 3, 5);
            x.go(7);
            x.wind(9);
            due("back(1)", x.back(1), steps);
            for (int what = 0; what < 10; what++) {
                due("back behind " + steps + ": now(" + what + ")", x.now(what), all[steps][what]);
            }
            due("back behind " + steps + ": in a row", Whole.rowOf(x), rows[steps]);
            due("back behind " + steps + ": THE LOT", x.lot(44), 44);
            x.go(1);
        }
        due("it rang", x.now(8) > 0 ? 1 : 0, 1);
        due("it turned", x.now(7) > 0 ? 1 : 0, 1);
    }

    private static void imageOfOverAndEnded() {
        TinMouse x = Checks.told("table 7 3;hole 4 1 1 1;toy 2 4 0 9;start 0 1 0;");
        x.put(3, 1, 2);
        x.keep(0);
        x.go(1);
        due("keep(1) when OVER", x.keep(1), 1);
        due("back(0) when OVER", x.back(0), 0);
        due("it GOES", x.now(4), 0);
        due("back(1)", x.back(1), 1);
        due("it is OVER", x.now(4), 2);
        x.anew();
        x.wind(0);
        due("keep(0) when ENDED", x.keep(0), 0);
        x.wind(5);
        x.back(0);
        due("it is ENDED", x.now(4), 1);
    }

    // nothing else

    private static void imageOfNothingElse() {
        TinMouse x = Checks.told("table 5 4;toy 1 3 0 99;");
        x.go(5);
        x.keep(0);
        x.toy(0, 2);
        x.toy(1, 6);
        x.toy(2, 5);
        x.track(1);
        x.track(2);
        x.key(1, 1);
        x.type(32, 3);
        x.rate(0);
        x.back(0);
        int[] toy = {2, 6, 5};
        for (int what = 0; what < 3; what++) {
            due("THE TOY stays: told(" + (2 + what) + ")", x.told(2 + what), toy[what]);
        }
        due("TRACKS stay", x.count(3), 2);
        due("KEYS stay", x.count(4), 1);
        due("THE TEXT stays", x.count(5), 3);
        due("THE TRACE stays", x.trace(), 1);
        x.wipe();
        x.clear();
        x.back(0);
        due("no TRACKS by back()", x.count(3), 0);
        due("no TEXT by back()", x.count(5), 0);
    }

    // count: 0 cells that are WOOD .. 5 bytes of THE TEXT. BAD.

    private static void countNumbers() {
        TinMouse x = Checks.told("table 4 4;hole 0 0 4 1;book 0 0 1 2;book 2 2 2 2;");
        CHECKS.range("count(what)", x::count, 0, 5, BAD);
        int[] want = {7, 4, 5, 0, 0, 0};
        for (int what = 0; what <= 5; what++) {
            due("count(" + what + ")", x.count(what), want[what]);
        }
        for (int i = 1; i <= 17; i++) {
            x.track(1);
            due("TRACKS", x.count(3), Math.min(16, i));
        }
        for (int i = 1; i <= 21; i++) {
            x.key(1, 1);
            due("KEYS", x.count(4), Math.min(20, i));
        }
        for (int i = 1; i <= 301; i++) {
            x.type(32, 1);
            due("bytes", x.count(5), Math.min(300, i));
        }
        x.wipe();
        x.clear();
        due("no TRACKS", x.count(3), 0);
        due("no bytes", x.count(5), 0);
        due("KEYS stay", x.count(4), 20);
    }

    private static void constants() {
        due("BAD", TinMouse.BAD, BAD);
        due("STATE", TinMouse.STATE, STATE);
        due("FULL", TinMouse.FULL, FULL);
        due("NONE", TinMouse.NONE, NONE);
        due("NO", TinMouse.NO, NO);
    }
}
