/**
 * Terms, part 2, and promises 8 to 12: each sentence about NOW, STEPS and turns that names a boundary, on both sides
 * of it. The sentence stands above its test.
 */
public final class StepEdgeTest {
    private static final int BAD = -1, STATE = -2, NONE = -9;
    private static final int SLANTING = 1, SQUARE = 2, CORNERED = 3, SAWING = 4, STRUCK = 5;
    private static final int[][] WAY = {{0, -1}, {1, -1}, {1, 0}, {1, 1}, {0, 1}, {-1, 1}, {-1, 0}, {-1, -1}};
    /** One cell of WOOD with HOLES about it: each step is a turn. */
    private static final String CAGE = "table 3 3;hole 0 0 3 1;hole 0 2 3 1;hole 0 1 1 1;hole 2 1 1 1;";
    /** A row of WOOD, cells 7 to 13, with HOLES above and below. */
    private static final String ROW = "table 7 3;hole 0 0 7 1;hole 0 2 7 1;";
    private static final Checks CHECKS = new Checks();

    private static void due(String call, long got, long want) {
        CHECKS.due(call, got, want);
    }

    public static void main(String[] args) {
        nowAtFirst();
        startOnNoWood();
        startOnABook();
        overAheadOfEnded();
        endedAtSpringZero();
        springIsOneLess();
        goTakesOneToMost();
        goAsManyAsItGoes();
        directions();
        noseAtTheEdge();
        noseAndHole();
        bookAhead();
        bookOnHoleAhead();
        turnIsClockwise();
        fallsOnNoWood();
        nothingBehindTheFall();
        bendIsReached();
        bendMadeLess();
        bendWraps();
        bendInTurnAndFall();
        ringsWhenItMovedThere();
        struckFirst();
        sawingIsTheFourth();
        rowEndsByAMove();
        rowGoesOn();
        corneredOrSlanting();
        slantOrSquare();
        latestTurnStays();
        wind();
        put();
        anew();
        nowNumbers();
        CHECKS.end();
    }

    private static void dueNow(String when, TinMouse x, int... want) {
        for (int what = 0; what < want.length; what++) {
            due(when + ": now(" + what + ")", x.now(what), want[what]);
        }
    }

    private static TinMouse put(String text, int x, int y, int d) {
        TinMouse mouse = Checks.told(text);
        due("put(" + x + ", " + y + ", " + d + ") on " + text, mouse.put(x, y, d), 1);
        return mouse;
    }

    /** Where one step leads: the cell, and by its side whether it turned. */
    private static void dueStep(TinMouse mouse, String when, int cell, int turns) {
        due(when + ": go(1)", mouse.go(1), 1);
        due(when + ": the cell", mouse.now(0), cell);
        due(when + ": turns", mouse.now(7), turns);
        due(when + ": MOVES", mouse.now(6), 1 - turns);
    }

    // (At first by START ..): the cell, the direction, BENT, SPRING left

    private static void nowAtFirst() {
        dueNow("a new one", new TinMouse(), 0, 2, 0, 200, 0, 0, 0, 0, 0, NONE);
        dueNow("as told", Checks.told("table 5 4;start 4 3 7;toy 1 1 1 1;bell 4 3;"), 19, 7, 0, 1, 0, 0, 0, 0, 0, NONE);
    }

    // where that is no WOOD it is OVER at once

    private static void startOnNoWood() {
        TinMouse hole = Checks.told("start 2 2 2;hole 2 2 1 1;");
        dueNow("START on a HOLE", hole, 18, 2, 0, 200, 2, 0, 0, 0, 0, NONE);
        due("go(1)", hole.go(1), STATE);
        TinMouse beside = Checks.told("start 2 2 2;hole 3 3 1 1;");
        due("START beside a HOLE", beside.now(4), 0);
        due("go(1)", beside.go(1), 1);
        TinMouse both = Checks.told("start 2 2 2;hole 2 2 1 1;book 2 2 1 1;");
        due("START on a BOOK on a HOLE", both.now(4), 2);
        due("no SPRING: OVER, too", Checks.told("start 2 2 2;hole 2 2 1 1;toy 1 1 1 0;").now(4), 2);
    }

    private static void startOnABook() {
        TinMouse x = Checks.told("start 2 2 2;book 2 2 1 1;");
        due("START on a BOOK is on WOOD", x.now(4), 0);
        dueStep(x, "it moves off the BOOK", 19, 0);
        TinMouse back = Checks.told("start 2 2 2;book 2 2 1 1;toy 1 4 0 99;hole 4 2 1 1;");
        back.go(2);
        due("and turned", back.now(1), 6);
        back.go(1);
        dueNow("it is struck by the BOOK that it was on", back, 19, 2, 0, 96, 0, 3, 1, 2, 0, STRUCK);
    }

    // it is OVER (2: it is on no WOOD), else ENDED (1: SPRING 0), else it GOES (0)

    private static void overAheadOfEnded() {
        TinMouse last = put("table 7 3;hole 3 1 1 1;toy 2 1 0 1;", 2, 1, 2);
        due("it GOES", last.now(4), 0);
        due("go(1)", last.go(1), 1);
        due("SPRING left", last.now(3), 0);
        due("it fell with its last SPRING", last.now(4), 2);
        due("wind(5) when OVER", last.wind(5), STATE);
    }

    private static void endedAtSpringZero() {
        TinMouse x = Checks.told("toy 1 3 0 2;");
        due("SPRING 2", x.now(4), 0);
        x.go(1);
        due("SPRING 1", x.now(3), 1);
        due("it GOES", x.now(4), 0);
        x.go(1);
        due("SPRING 0", x.now(3), 0);
        due("it is ENDED", x.now(4), 1);
        due("go(1) when ENDED", x.go(1), STATE);
        due("SPRING stays 0", x.now(3), 0);
        due("STEPS", x.now(5), 2);
        due("no SPRING at first", Checks.told("toy 1 3 0 0;").now(4), 1);
        due("SPRING 1 at first", Checks.told("toy 1 3 0 1;").now(4), 0);
    }

    // A STEP: SPRING is one less

    private static void springIsOneLess() {
        TinMouse x = Checks.told(CAGE + "start 1 1 0;toy 1 1 0 9;");
        for (int left = 8; left >= 0; left--) {
            x.go(1);
            due("SPRING left by turns", x.now(3), left);
            due("STEPS by turns", x.now(5), 9 - left);
            due("turns", x.now(7), 9 - left);
        }
        TinMouse y = Checks.told("table 16 3;toy 1 1 0 9;");
        for (int left = 8; left >= 0; left--) {
            y.go(1);
            due("SPRING left by MOVES", y.now(3), left);
            due("STEPS by MOVES", y.now(5), 9 - left);
            due("MOVES", y.now(6), 9 - left);
        }
    }

    // n STEPS (1 .. 999)

    private static void goTakesOneToMost() {
        CHECKS.range("go(n)", n -> new TinMouse().go(n), 1, 999, BAD);
        TinMouse over = Checks.told("hole 0 0 1 1;");
        CHECKS.range("go(n) when OVER", over::go, 1, 999, BAD);
        due("go(1) when OVER", over.go(1), STATE);
        due("go(999) when OVER", over.go(999), STATE);
        TinMouse ended = Checks.told("toy 1 1 0 0;");
        CHECKS.range("go(n) when ENDED", ended::go, 1, 999, BAD);
        due("go(1) when ENDED", ended.go(1), STATE);
        due("go(999) when ENDED", ended.go(999), STATE);
    }

    // as many as it GOES: how many there were

    private static void goAsManyAsItGoes() {
        for (int n = 1; n <= 9; n++) {
            due("go(" + n + ") by SPRING 5", Checks.told("toy 1 3 0 5;").go(n), Math.min(n, 5));
        }
        TinMouse most = Checks.told("toy 1 3 0 999;");
        due("go(998)", most.go(998), 998);
        due("it GOES", most.now(4), 0);
        due("go(999)", most.go(999), 1);
        due("it is ENDED", most.now(4), 1);
        for (int n = 1; n <= 5; n++) {
            // it turns from the side of the row to the right, then moves to the HOLE
            TinMouse falls = put(ROW + "hole 4 1 1 1;toy 2 2 0 99;", 3, 1, 0);
            due("go(" + n + ") to the fall", falls.go(n), Math.min(n, 2));
            due("STEPS to the fall", falls.now(5), Math.min(n, 2));
        }
    }

    // a direction (0 .. 7 by eighths: 0 up, 1 up and right, 2 right, ..); it moves to the next cell ahead

    private static void directions() {
        int[] cells = {31, 32, 41, 50, 49, 48, 39, 30};
        for (int d = 0; d <= 7; d++) {
            TinMouse x = put("table 9 9;", 4, 4, d);
            dueStep(x, "direction " + d, cells[d], 0);
            due("the direction stays", x.now(1), d);
        }
    }

    // the cell NOSE cells ahead is no WOOD (beyond the table, too)

    private static void noseAtTheEdge() {
        for (int nose = 1; nose <= 3; nose++) {
            TinMouse mouse = Checks.told("table 7 6;toy " + nose + " 1 0 999;");
            for (int cell = 0; cell < 42; cell++) {
                for (int d = 0; d <= 7; d++) {
                    mouse.anew();
                    mouse.put(cell % 7, cell / 7, d);
                    int x = cell % 7 + nose * WAY[d][0];
                    int y = cell / 7 + nose * WAY[d][1];
                    boolean moves = x >= 0 && x <= 6 && y >= 0 && y <= 5;
                    int to = cell + (moves ? WAY[d][0] + 7 * WAY[d][1] : 0);
                    dueStep(mouse, "NOSE " + nose + " from " + cell + " to " + d, to, moves ? 0 : 1);
                    due("its direction", mouse.now(1), moves ? d : (d + 1) % 8);
                }
            }
        }
    }

    private static void noseAndHole() {
        for (int nose = 1; nose <= 3; nose++) {
            for (int far = 1; far <= 4; far++) {
                for (int d = 0; d <= 7; d++) {
                    String hole = "hole " + (5 + far * WAY[d][0]) + " " + (5 + far * WAY[d][1]) + " 1 1;";
                    TinMouse x = put("table 11 11;toy " + nose + " 1 0 9;" + hole, 5, 5, d);
                    String when = "NOSE " + nose + ", HOLE " + far + " to " + d;
                    boolean turns = far == nose;
                    dueStep(x, when, turns ? 60 : 60 + WAY[d][0] + 11 * WAY[d][1], turns ? 1 : 0);
                    due(when + ": OVER", x.now(4), far == 1 && nose > 1 ? 2 : 0);
                    due(when + ": the latest turn", x.now(9), !turns ? NONE : d % 2 == 0 ? SQUARE : SLANTING);
                }
            }
        }
    }

    // If the next cell ahead has a BOOK .. it turns

    private static void bookAhead() {
        for (int nose = 1; nose <= 3; nose++) {
            for (int far = 1; far <= 4; far++) {
                for (int d = 0; d <= 7; d++) {
                    String book = "book " + (5 + far * WAY[d][0]) + " " + (5 + far * WAY[d][1]) + " 1 1;";
                    TinMouse x = put("table 11 11;toy " + nose + " 1 0 9;" + book, 5, 5, d);
                    String when = "NOSE " + nose + ", BOOK " + far + " to " + d;
                    dueStep(x, when, far == 1 ? 60 : 60 + WAY[d][0] + 11 * WAY[d][1], far == 1 ? 1 : 0);
                    due(when + ": the latest turn", x.now(9), far == 1 ? STRUCK : NONE);
                }
            }
        }
    }

    // a BOOK on a HOLE is none

    private static void bookOnHoleAhead() {
        TinMouse turns = put("table 7 3;toy 1 1 0 9;hole 3 1 1 1;book 3 1 1 1;", 2, 1, 2);
        dueStep(turns, "a BOOK on a HOLE, NOSE 1", 9, 1);
        due("is not struck", turns.now(9), SQUARE);
        TinMouse falls = put("table 7 3;toy 2 1 0 9;hole 3 1 1 1;book 3 1 1 1;", 2, 1, 2);
        dueStep(falls, "a BOOK on a HOLE, NOSE 2", 10, 0);
        due("is a fall", falls.now(4), 2);
    }

    // it turns: direction TURN eighths to the right (clockwise)

    private static void turnIsClockwise() {
        for (int turn = 1; turn <= 7; turn++) {
            for (int d = 0; d <= 7; d++) {
                TinMouse x = put(CAGE + "toy 1 " + turn + " 0 9;", 1, 1, d);
                x.go(1);
                due("TURN " + turn + " from " + d, x.now(1), d + turn > 7 ? d + turn - 8 : d + turn);
                due("its cell", x.now(0), 4);
                due("BENT", x.now(2), 0);
            }
        }
        TinMouse y = put(CAGE + "toy 1 1 0 9;", 1, 1, 2);
        y.toy(1, 7);
        y.go(1);
        due("TURN as it is now", y.now(1), 1);
    }

    // it moves to the next cell ahead; is that no WOOD, it is OVER

    private static void fallsOnNoWood() {
        for (int nose = 2; nose <= 3; nose++) {
            for (int d = 0; d <= 7; d++) {
                int hole = 60 + WAY[d][0] + 11 * WAY[d][1];
                TinMouse x = put("table 11 11;toy " + nose + " 1 3 9;hole " + hole % 11 + " " + hole / 11 + " 1 1;",
                    5, 5, d);
                x.go(1);
                dueNow("a fall", x, hole, d, 0, 8, 2, 1, 1, 0, 0, NONE);
                due("put from there", x.put(5, 5, (d + 4) % 8), 1);
                due("it GOES again", x.now(4), 0);
                due("MOVES stay", x.now(6), 1);
            }
        }
    }

    private static void nothingBehindTheFall() {
        TinMouse x = put("table 7 3;toy 2 1 0 9;hole 3 1 1 1;", 2, 1, 2);
        x.go(9);
        int[] fallen = {10, 2, 0, 8, 2, 1, 1, 0, 0, NONE};
        dueNow("fallen", x, fallen);
        due("go(9)", x.go(9), STATE);
        due("wind(9)", x.wind(9), STATE);
        dueNow("still", x, fallen);
        due("anew()", x.anew(), 1);
        due("it GOES", x.now(4), 0);
    }

    // with BEND above 0, BENT is one more, and if it is BEND at least then, the direction is one eighth more, BENT 0

    private static void bendIsReached() {
        for (int bend = 1; bend <= 9; bend++) {
            TinMouse x = put("table 16 16;toy 1 1 " + bend + " 99;", 0, 7, 2);
            for (int i = 1; i < bend; i++) {
                x.go(1);
                dueNow("BEND " + bend + ", move " + i, x, 16 * 7 + i, 2, i);
            }
            x.go(1);
            dueNow("BEND " + bend + ", the last", x, 16 * 7 + bend, 3, 0);
            x.go(1);
            dueNow("BEND " + bend + ", one more", x, 16 * 8 + bend + 1, bend == 1 ? 4 : 3, bend == 1 ? 0 : 1);
        }
        TinMouse none = put("table 16 16;toy 1 1 0 99;", 0, 7, 2);
        for (int i = 1; i <= 15; i++) {
            none.go(1);
            dueNow("BEND 0, move " + i, none, 16 * 7 + i, 2, 0);
        }
    }

    private static void bendMadeLess() {
        for (int bend = 0; bend <= 9; bend++) {
            TinMouse x = put("table 16 16;toy 1 1 9 99;", 0, 7, 2);
            x.go(5);
            due("BENT", x.now(2), 5);
            x.toy(2, bend);
            due("BENT stays by toy()", x.now(2), 5);
            x.go(1);
            boolean bends = bend > 0 && bend <= 6;
            dueNow("5 moves, then BEND " + bend, x, 118, bends ? 3 : 2, bend == 0 ? 5 : bends ? 0 : 6);
        }
        TinMouse late = put("table 16 16;toy 1 1 9 99;", 0, 7, 2);
        late.go(8);
        due("BENT at the most", late.now(2), 8);
        late.toy(2, 0);
        late.go(3);
        due("BENT by BEND 0", late.now(2), 8);
        late.toy(2, 9);
        late.go(1);
        dueNow("and by BEND 9 again", late, 124, 3, 0);
    }

    private static void bendWraps() {
        for (int d = 0; d <= 7; d++) {
            TinMouse x = put("table 9 9;toy 1 1 1 99;", 4, 4, d);
            x.go(1);
            due("bent from " + d, x.now(1), d == 7 ? 0 : d + 1);
        }
    }

    private static void bendInTurnAndFall() {
        TinMouse turn = put("table 9 3;toy 1 4 3 99;", 6, 1, 2);
        turn.go(2);
        due("BENT by two moves", turn.now(2), 2);
        turn.go(1);
        dueNow("a turn bends not", turn, 17, 6, 2);
        turn.go(1);
        dueNow("the third move does", turn, 16, 7, 0);
        // a move to the right, a turn ahead of one HOLE, a fall down into the other
        TinMouse falls = put("table 9 5;toy 2 2 2 99;hole 6 2 1 1;hole 4 3 1 1;", 3, 2, 2);
        falls.go(3);
        dueNow("a fall bends not", falls, 31, 4, 1, 96, 2, 3, 2, 1);
    }

    // and if it moved onto the BELL's cell it RINGS

    private static void ringsWhenItMovedThere() {
        TinMouse x = put("table 7 3;bell 3 1;toy 1 4 0 99;", 1, 1, 2);
        x.go(1);
        due("ahead of the BELL", x.now(8), 0);
        x.go(1);
        due("on it", x.now(8), 1);
        x.go(1);
        due("behind it", x.now(8), 1);
        x.go(6);
        due("on it again", x.now(0), 10);
        due("it RINGS again", x.now(8), 2);
        due("put on the BELL", x.put(3, 1, 2), 1);
        due("RINGS not", x.now(8), 2);
        TinMouse turns = Checks.told(CAGE + "bell 1 1;start 1 1 2;");
        turns.go(9);
        due("turns on the BELL ring not", turns.now(8), 0);
        TinMouse start = Checks.told("bell 0 0;");
        due("a START on the BELL rings not", start.now(8), 0);
        start.go(1);
        due("nor its first move", start.now(8), 0);
        TinMouse bends = put("table 7 3;bell 3 1;toy 1 4 1 99;", 2, 1, 2);
        bends.go(1);
        dueNow("it bends and RINGS", bends, 10, 3, 0, 98, 0, 1, 1, 0, 1);
        TinMouse none = new TinMouse();
        none.go(200);
        due("no BELL", none.now(8), 0);
        TinMouse first = put("table 7 3;bell 0 0;toy 1 4 0 99;", 1, 0, 6);
        first.go(1);
        due("a BELL on cell 0", first.now(8), 1);
    }

    // A turn is STRUCK (5), if by a BOOK

    private static void struckFirst() {
        TinMouse edge = put("table 7 3;book 6 1 1 1;toy 2 1 0 9;", 5, 1, 2);
        edge.go(1);
        due("by a BOOK and the NOSE beyond the table", edge.now(9), STRUCK);
        TinMouse slant = put("table 7 3;book 6 2 1 1;toy 2 1 0 9;", 5, 1, 3);
        slant.go(1);
        due("by a BOOK, slant", slant.now(9), STRUCK);
        TinMouse nose = put("table 7 3;book 5 1 1 1;hole 6 1 1 1;toy 2 1 0 9;", 4, 1, 2);
        nose.go(1);
        due("by a BOOK, the NOSE at a HOLE", nose.now(9), STRUCK);
        TinMouse saws = put("table 3 3;book 0 0 3 1;book 0 2 3 1;book 0 1 1 1;book 2 1 1 1;toy 1 1 0 99;", 1, 1, 0);
        for (int i = 1; i <= 9; i++) {
            saws.go(1);
            due("STRUCK, turn " + i + " in a row", saws.now(9), STRUCK);
            due("in a row", Whole.rowOf(saws), i);
        }
    }

    // else SAWING (4), if it is the fourth or a later one in a row (no move between)

    private static void sawingIsTheFourth() {
        for (int turn = 1; turn <= 7; turn++) {
            TinMouse x = put(CAGE + "toy 1 " + turn + " 0 99;", 1, 1, 0);
            int d = 0;
            for (int i = 1; i <= 12; i++) {
                x.go(1);
                due("TURN " + turn + ", the turn " + i, x.now(9), i >= 4 ? SAWING : d % 2 == 0 ? SQUARE : CORNERED);
                d = (d + turn) % 8;
            }
        }
        String mixedCage = "table 3 3;hole 0 0 3 1;hole 0 1 1 2;hole 2 1 1 2;book 1 2 1 1;toy 1 1 0 99;";
        TinMouse mixed = put(mixedCage, 1, 1, 2);
        int[] sorts = {SQUARE, SLANTING, STRUCK, SAWING, SAWING, SAWING, SAWING, SAWING, SAWING, SAWING, STRUCK};
        for (int i = 0; i < sorts.length; i++) {
            mixed.go(1);
            due("a STRUCK one counts in the row: turn " + (i + 1), mixed.now(9), sorts[i]);
        }
    }

    private static void rowEndsByAMove() {
        // in the corner: three turns, then a move out of it
        TinMouse x = put("table 3 3;toy 1 1 0 99;", 0, 0, 7);
        x.go(3);
        due("three turns in a row", x.now(9), SLANTING);
        due("in a row", Whole.rowOf(x), 3);
        due("its direction", x.now(1), 2);
        x.go(1);
        due("a move", x.now(6), 1);
        due("none in a row", Whole.rowOf(x), 0);
        x.put(0, 0, 7);
        x.go(3);
        x.go(3);
        due("the latest turn", x.now(9), SQUARE);
        due("one in a row behind a move", Whole.rowOf(x), 1);
        TinMouse fourth = put("table 3 3;toy 1 1 0 99;", 0, 0, 6);
        fourth.go(4);
        due("four turns in a row", fourth.now(9), SAWING);
        fourth.go(1);
        due("a move leaves the latest turn", fourth.now(9), SAWING);
        fourth.go(2);
        due("behind it it is the first", fourth.now(9), SQUARE);
    }

    private static void rowGoesOn() {
        TinMouse x = put(CAGE + "toy 1 2 0 3;", 1, 1, 0);
        x.go(1);
        x.go(1);
        due("go(9) till it is ENDED", x.go(9), 1);
        due("the third", x.now(9), SQUARE);
        x.wind(2);
        x.toy(0, 1);
        x.toy(1, 4);
        x.go(1);
        due("the fourth behind wind() and toy()", x.now(9), SAWING);
        x.put(1, 1, 0);
        x.go(1);
        due("the first behind put()", x.now(9), SQUARE);
        due("one in a row", Whole.rowOf(x), 1);
        TinMouse y = Checks.told(CAGE + "start 1 1 0;toy 1 2 0 9;");
        y.go(3);
        y.keep(0);
        y.anew();
        y.go(1);
        due("the first behind anew()", y.now(9), SQUARE);
        due("one in a row behind anew()", Whole.rowOf(y), 1);
        y.back(0);
        y.go(1);
        due("the fourth behind back()", y.now(9), SAWING);
        TinMouse z = Checks.told(CAGE + "start 1 1 0;toy 1 2 0 9;");
        z.go(3);
        Checks.typeText(z, CAGE + "start 1 1 0;toy 1 2 0 9;");
        z.table();
        z.go(1);
        due("the first behind table()", z.now(9), SQUARE);
    }

    // CORNERED (3), if both cells NOSE cells off in the directions one eighth to either side are no WOOD, else SLANTING

    private static void corneredOrSlanting() {
        for (int nose = 1; nose <= 3; nose++) {
            for (int d = 1; d <= 7; d += 2) {
                for (int beside = 0; beside < 4; beside++) {
                    String left = (beside & 1) == 0 ? "" : holeOff(nose, (d + 7) % 8);
                    String right = (beside & 2) == 0 ? "" : holeOff(nose, (d + 1) % 8);
                    TinMouse x = put("table 11 11;toy " + nose + " 1 0 9;" + holeOff(nose, d) + left + right, 5, 5, d);
                    x.go(1);
                    due("NOSE " + nose + " to " + d + ", HOLES beside " + beside, x.now(9),
                        beside == 3 ? CORNERED : SLANTING);
                }
                String books = holeOff(nose, d) + holeOff(nose, (d + 1) % 8)
                    + holeOff(nose, (d + 7) % 8).replace("hole", "book");
                TinMouse book = put("table 11 11;toy " + nose + " 1 0 9;" + books, 5, 5, d);
                book.go(1);
                due("a BOOK beside is WOOD", book.now(9), SLANTING);
            }
        }
        int[][] corners = {{7, 0, 0}, {1, 6, 0}, {3, 6, 5}, {5, 0, 5}};
        for (int[] c : corners) {
            TinMouse x = put("table 7 6;", c[1], c[2], c[0]);
            x.go(1);
            due("CORNERED in the corner to " + c[0], x.now(9), CORNERED);
            TinMouse y = put("table 7 6;", c[1] == 0 ? 1 : 5, c[2], c[0]);
            y.go(1);
            due("SLANTING one cell beside the corner to " + c[0], y.now(9), SLANTING);
            TinMouse z = put("table 7 6;", c[1], c[2] == 0 ? 1 : 4, c[0]);
            z.go(1);
            due("SLANTING one cell off the corner to " + c[0], z.now(9), SLANTING);
        }
    }

    private static String holeOff(int nose, int d) {
        return "hole " + (5 + nose * WAY[d][0]) + " " + (5 + nose * WAY[d][1]) + " 1 1;";
    }

    // if the direction it came in is slant (1, 3, 5, 7) .. else SQUARE (2)

    private static void slantOrSquare() {
        for (int d = 0; d <= 7; d++) {
            for (int turn = 1; turn <= 7; turn++) {
                TinMouse x = put("table 11 11;toy 1 " + turn + " 0 9;" + holeOff(1, d), 5, 5, d);
                x.go(1);
                due("TURN " + turn + " from " + d, x.now(9), d % 2 == 0 ? SQUARE : SLANTING);
            }
        }
    }

    // the latest turn (1 .. 5; NONE)

    private static void latestTurnStays() {
        TinMouse x = put("table 7 3;toy 1 4 0 99;", 5, 1, 2);
        x.go(1);
        due("no turn yet", x.now(9), NONE);
        x.go(1);
        due("a turn", x.now(9), SQUARE);
        x.go(5);
        due("it stays by MOVES", x.now(9), SQUARE);
        x.put(0, 0, 7);
        due("and by put()", x.now(9), SQUARE);
        x.go(1);
        due("till the next", x.now(9), CORNERED);
        x.anew();
        due("none anew", x.now(9), NONE);
    }

    // SPRING left becomes v (0 .. 999): what it was. BAD; STATE: it is OVER.

    private static void wind() {
        TinMouse x = Checks.told("toy 1 3 0 5;");
        CHECKS.range("wind(v)", x::wind, 0, 999, BAD);
        due("what it was", x.wind(0), 999);
        due("ENDED by wind(0)", x.now(4), 1);
        due("wind(1) when ENDED", x.wind(1), 0);
        due("it GOES", x.now(4), 0);
        due("go(9)", x.go(9), 1);
        due("SPRING at first stays", x.told(5), 5);
        due("wind(999)", x.wind(999), 0);
        due("go(999)", x.go(999), 999);
        due("all are STEPS", x.now(5), 1000);
        x.anew();
        due("SPRING left anew", x.now(3), 5);
        TinMouse over = Checks.told("hole 0 0 1 1;");
        CHECKS.range("wind(v) when OVER", over::wind, 0, 999, BAD);
        due("wind(0) when OVER", over.wind(0), STATE);
        due("wind(999) when OVER", over.wind(999), STATE);
        due("SPRING left stays", over.now(3), 200);
    }

    // It is put to a cell in a direction, BENT 0, no turns in a row (all else stays): 1. BAD (no WOOD, a BOOK, too).

    private static void put() {
        TinMouse x = Checks.told("table 6 5;hole 0 0 1 1;book 5 4 1 1;toy 1 1 9 20;bell 2 2;start 1 0 2;");
        x.go(6);
        dueNow("ahead of put()", x, 5, 4, 4, 14, 0, 6, 4, 2, 0, SLANTING);
        due("put on WOOD", x.put(2, 2, 0), 1);
        dueNow("behind put()", x, 14, 0, 0, 14, 0, 6, 4, 2, 0, SLANTING);
        due("none in a row", Whole.rowOf(x), 0);
        due("put on a HOLE", x.put(0, 0, 0), BAD);
        due("put beside the HOLE", x.put(1, 0, 0), 1);
        due("put on a BOOK", x.put(5, 4, 0), BAD);
        due("put beside the BOOK", x.put(4, 4, 0), 1);
        CHECKS.range("put(x, 2, 0)", v -> x.put(v, 2, 0), 0, 5, BAD);
        CHECKS.range("put(2, y, 0)", v -> x.put(2, v, 0), 0, 4, BAD);
        CHECKS.range("put(2, 2, d)", v -> x.put(2, 2, v), 0, 7, BAD);
        for (int d = 0; d <= 7; d++) {
            due("put to " + d, x.put(3, 3, d), 1);
            due("its direction", x.now(1), d);
        }
        TinMouse both = Checks.told("hole 2 2 1 1;book 2 2 1 1;");
        due("put on a BOOK on a HOLE", both.put(2, 2, 0), BAD);
        TinMouse over = Checks.told("hole 0 0 1 1;");
        due("put when OVER", over.put(1, 1, 1), 1);
        due("it GOES", over.now(4), 0);
        TinMouse ended = Checks.told("toy 1 1 1 0;");
        due("put when ENDED", ended.put(1, 1, 1), 1);
        due("it is ENDED", ended.now(4), 1);
    }

    // NOW is as at first: STEPS there were

    private static void anew() {
        due("anew() of a new one", new TinMouse().anew(), 0);
        TinMouse x = Checks.told("table 6 5;toy 2 1 3 20;bell 2 0;start 1 0 2;");
        x.go(19);
        x.toy(0, 1);
        x.toy(1, 5);
        x.toy(2, 8);
        x.wind(77);
        x.go(3);
        due("anew()", x.anew(), 22);
        dueNow("anew", x, 1, 2, 0, 20, 0, 0, 0, 0, 0, NONE);
        due("none in a row", Checks.told(CAGE + "start 1 1 0;").anew(), 0);
        due("NOSE stays", x.told(2), 1);
        due("TURN stays", x.told(3), 5);
        due("BEND stays", x.told(4), 8);
        due("anew() again", x.anew(), 0);
        TinMouse hole = Checks.told("hole 0 0 1 1;");
        hole.put(2, 2, 2);
        hole.go(3);
        due("anew() to no WOOD", hole.anew(), 3);
        due("OVER at once", hole.now(4), 2);
        TinMouse none = Checks.told("toy 1 1 1 0;");
        none.wind(4);
        none.go(4);
        due("anew() to no SPRING", none.anew(), 4);
        due("ENDED at once", none.now(4), 1);
    }

    // now: 0 the cell .. 9 the latest turn. BAD.

    private static void nowNumbers() {
        TinMouse x = put("table 7 3;toy 1 4 0 99;", 6, 1, 2);
        x.go(1);
        CHECKS.range("now(what)", x::now, 0, 9, BAD);
        TinMouse over = Checks.told("hole 0 0 1 1;");
        CHECKS.range("now(what) when OVER", over::now, 0, 9, BAD);
    }
}
