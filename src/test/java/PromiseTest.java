/** Each promise of the document by runs whose answers are worked out by hand. */
public final class PromiseTest {
    private static final int BAD = -1, STATE = -2, FULL = -3, NONE = -9, NO = -1000000;
    private static final int[] FAR = {Integer.MIN_VALUE, Integer.MIN_VALUE + 1, -1000000, -9, Integer.MAX_VALUE};
    private static final Checks CHECKS = new Checks();

    private static void due(String call, long got, long want) {
        CHECKS.due(call, got, want);
    }

    public static void main(String[] args) {
        promise1NewObject();
        promise2Type();
        promise3Clear();
        promise4TableTells();
        promise4TableForgets();
        promise4Faults();
        promise4FaultLeavesNothing();
        promise5Cell();
        promise6Told();
        promise7Toy();
        promise8Go();
        promise8Turns();
        promise8Falls();
        promise8Bends();
        promise9Wind();
        promise10Put();
        promise11Anew();
        promise12Now();
        promise13Round();
        promise14Starts();
        promise15Rings();
        promise16Common();
        promise17Safe();
        promise18Covers();
        promise19Everywhere();
        promise20Best();
        promise21Track();
        promise22Wipe();
        promise23Fits();
        promise24Meet();
        promise25Drawn();
        promise26Lot();
        promise27Key();
        promise28Law();
        promise29Circle();
        promise30Rate();
        promise31Keep();
        promise32Back();
        promise33Count();
        promise34Trace();
        CHECKS.end();
    }

    private static void dueNow(String when, TinMouse x, int... want) {
        for (int what = 0; what < want.length; what++) {
            due(when + ": now(" + what + ")", x.now(what), want[what]);
        }
    }

    private static void promise1NewObject() {
        TinMouse x = new TinMouse();
        int[] told = {8, 8, 1, 3, 0, 200, NONE, 0, 2};
        for (int what = 0; what < told.length; what++) {
            due("new: told(" + what + ")", x.told(what), told[what]);
        }
        dueNow("new", x, 0, 2, 0, 200, 0, 0, 0, 0, 0, NONE);
        int[] counts = {64, 0, 0, 0, 0, 0};
        for (int what = 0; what < counts.length; what++) {
            due("new: count(" + what + ")", x.count(what), counts[what]);
        }
        due("new: trace()", x.trace(), 0);
        due("new: back(0)", x.back(0), STATE);
        due("new: back(1)", x.back(1), STATE);
        due("new: rate(0)", x.rate(0), NO);
        due("new: lot(9)", x.lot(9), 1);
        x.go(5);
        due("another new one is a new one: now(5)", new TinMouse().now(5), 0);
        due("another new one is a new one: lot", new TinMouse().lot(4), 1);
        due("BAD", TinMouse.BAD, BAD);
        due("STATE", TinMouse.STATE, STATE);
        due("FULL", TinMouse.FULL, FULL);
        due("NONE", TinMouse.NONE, NONE);
        due("NO", TinMouse.NO, NO);
    }

    private static void promise2Type() {
        TinMouse x = new TinMouse();
        due("type 1 byte of 8", x.type(Checks.packed("zzzzzzzt"), 1), 1);
        due("type 4 bytes", x.type(Checks.packed("able"), 4), 5);
        due("type 5 bytes", x.type(Checks.packed(" 4 3;"), 5), 10);
        due("table() of it", x.table(), 1);
        due("told(0) of it", x.told(0), 4);
        due("told(1) of it", x.told(1), 3);
        for (int n : new int[] {0, 9, -1, Integer.MIN_VALUE, Integer.MAX_VALUE}) {
            due("type(5, " + n + ")", x.type(5, n), BAD);
        }
        due("type(-1, 8)", x.type(-1, 8), 8);
        due("a byte 255 begins no token", x.table(), -10);
        for (int i = 2; i <= 37; i++) {
            due("type 8 bytes", x.type(0x2020202020202020L, 8), 8 * i);
        }
        due("5 bytes too many", x.type(1, 5), FULL);
        due("count(5) behind FULL", x.count(5), 296);
        due("4 bytes to the brim", x.type(1, 4), 300);
        due("one byte too many", x.type(1, 1), FULL);
        due("BAD goes ahead of FULL", x.type(1, 0), BAD);
        due("BAD goes ahead of FULL", x.type(1, 9), BAD);
        due("clear()", x.clear(), 300);
        due("type behind clear()", x.type(1, 1), 1);
    }

    private static void promise3Clear() {
        TinMouse x = new TinMouse();
        due("clear() of none", x.clear(), 0);
        Checks.typeText(x, "table 2");
        due("clear()", x.clear(), 7);
        due("count(5)", x.count(5), 0);
        due("clear() again", x.clear(), 0);
        due("table() of a cleared text", x.table(), 0);
    }

    private static void promise4TableTells() {
        TinMouse x = new TinMouse();
        Checks.typeText(x, "  table16 3;bell 15 2;hole15 0 1 1;book 0 0 16 1;hole 3 1 2 2;toy3 7 9 999;start 15 1 7 ;  ");
        due("table()", x.table(), 7);
        due("count(5): the text is empty", x.count(5), 0);
        int[] told = {16, 3, 3, 7, 9, 999, 47, 31, 7};
        for (int what = 0; what < told.length; what++) {
            due("told(" + what + ")", x.told(what), told[what]);
        }
        due("holes", x.count(1), 5);
        due("books", x.count(2), 15);
        due("cell(3, 1)", x.cell(3, 1), 1);
        due("cell(4, 2)", x.cell(4, 2), 1);
        due("cell(5, 2)", x.cell(5, 2), 0);
        dueNow("told", x, 31, 7, 0, 999, 0, 0, 0, 0, 0, NONE);
        due("no items", Checks.tableOf(""), 0);
        due("blanks alone", Checks.tableOf("   "), 0);
        due("no table told", Checks.tableOf("bell 7 7;"), 1);
        due("hole and book many times", Checks.tableOf("hole 0 0 1 1;book 0 0 1 1;hole 0 0 1 1;book 1 1 1 1;"), 4);
        due("the least of all", Checks.tableOf("table 3 3;toy 1 1 0 0;start 0 0 0;bell 0 0;hole 2 2 1 1;"), 5);
        due("the most of all", Checks.tableOf("table 16 16;toy 3 7 9 999;start 15 15 7;bell 15 15;hole 0 0 16 16;"), 5);
        due("blanks where they may be", Checks.tableOf("table   3  4  ;start 1 1 1   ;"), 2);
        due("all 300 bytes", Checks.tableOf("bell 0 0;" + " ".repeat(291)), 1);
    }

    private static void promise4TableForgets() {
        TinMouse x = Checks.told("table 5 4;toy 2 5 3 77;bell 1 1;hole 2 2 1 1;book 3 3 1 1;start 1 2 3;");
        x.track(3);
        x.key(2, 9);
        x.lot(88);
        x.go(4);
        x.rate(0);
        x.keep(0);
        x.keep(1);
        Checks.typeText(x, "table 5 q");
        due("a faulty text", x.table(), -18);
        due("changes not the text", x.count(5), 9);
        due("changes not the table", x.told(0), 5);
        due("changes not the toy", x.told(2), 2);
        due("changes not the bell", x.told(6), 6);
        due("changes not the steps", x.now(5) > 0 ? 1 : 0, 1);
        due("changes not the tracks", x.count(3), 1);
        due("changes not the images", x.back(1), x.now(5));
        x.clear();
        long trace = x.trace();
        due("an empty text", x.table(), 0);
        int[] told = {8, 8, 1, 3, 0, 200, NONE, 0, 2};
        for (int what = 0; what < told.length; what++) {
            due("tells all: told(" + what + ")", x.told(what), told[what]);
        }
        due("no holes", x.count(1), 0);
        due("no books", x.count(2), 0);
        due("no tracks", x.count(3), 0);
        due("keys stay", x.count(4), 1);
        due("no image 0", x.back(0), STATE);
        due("no image 1", x.back(1), STATE);
        due("the trace goes on", x.trace(), trace);
        due("no turn", x.rate(0), NO);
        dueNow("as at first", x, 0, 2, 0, 200, 0, 0, 0, 0, 0, NONE);
        due("the lot stays", x.lot(1), 88);
    }

    private static void promise4FaultLeavesNothing() {
        TinMouse x = new TinMouse();
        Checks.typeText(x, "table 5 5;hole 0 0 1 1;book 1 1 1 1;start 1 1 1;toy 3 4 5 6;bell 0 0;q");
        due("a fault at the very end", x.table(), -10 - 69);
        dueNow("behind the fault", x, 0, 2, 0, 200);
        x.clear();
        Checks.typeText(x, "bell 7 7;");
        due("another text", x.table(), 1);
        int[] told = {8, 8, 1, 3, 0, 200, 63, 0, 2};
        for (int what = 0; what < told.length; what++) {
            due("behind a fault: told(" + what + ")", x.told(what), told[what]);
        }
        due("behind a fault: cell(0, 0)", x.cell(0, 0), 0);
        due("behind a fault: cell(1, 1)", x.cell(1, 1), 0);
        Checks.typeText(x, "bell 6 7;start 7 0 2;");
        due("the bell may be told again in another text", x.table(), 2);
        due("it is moved", x.told(6), 62);
        due("the way ahead", x.round(1), 64);
        Checks.typeText(x, "table 3 3;toy 1 4 0 9;start 0 0 2;");
        due("a third text", x.table(), 3);
        due("ways are of this table", x.round(1), 6);
    }

    private static void dueFault(String text, int place) {
        TinMouse x = new TinMouse();
        int bytes = Checks.typeText(x, text);
        due("table() of \"" + text + "\"", x.table(), -10 - place);
        due("count(5) behind \"" + text + "\"", x.count(5), bytes);
    }

    private static void promise4Faults() {
        String[] first = {"tabl 3 3;", "tables 3 3;", ";", "3", "#", "Table 3 3;", "\t", "\u00ff", "a", "tablethree"};
        for (String text : first) {
            dueFault(text, 0);
        }
        dueFault("  hol", 2);
        for (String word : new String[] {"cable 3 3;", "pole 0 0 1 1;", "cook 0 0 1 1;", "cell 0 0;", "boy 1 1 1 1;",
            "ttart 0 0 0;", "ho 0 0 1 1;", "bel 0 0;", "tox 1 1 1 1;", "to 1 1 1 1;"}) {
            dueFault(word, 0);
        }
        dueFault("tablez 3 3;", 0);
        dueFault("atable 3 3;", 0);
        dueFault("table{3 3;", 5);
        dueFault("table`3 3;", 5);
        dueFault("table 3/3;", 7);
        dueFault("table 3:3;", 7);
        dueFault("table", 5);
        dueFault("table 3 3", 9);
        dueFault("table 3 3  ", 11);
        dueFault("bell 0 0;table", 9);
        dueFault("bell 0 0;table 8 8;", 9);
        dueFault("table 8 8;table 8 8;", 10);
        dueFault("bell 0 0;bell 0 0;", 9);
        dueFault("toy 1 1 1 1;toy", 12);
        dueFault("start 0 0 0;hole 0 0 1 1; start 0 0 0;", 26);
        dueFault("table 2 8;", 6);
        dueFault("table 17 8;", 6);
        dueFault("table 8 2;", 8);
        dueFault("table 8 17;", 8);
        dueFault("table 4 3;bell 4 0;", 15);
        dueFault("table 4 3;bell 0 3;", 17);
        dueFault("table 4 3;start 4 0 0;", 16);
        dueFault("table 4 3;start 0 3 0;", 18);
        dueFault("start 0 0 8;", 10);
        dueFault("table 4 3;hole 4 0 1 1;", 15);
        dueFault("table 4 3;hole 0 3 1 1;", 17);
        dueFault("table 4 3;hole 1 0 4 1;", 19);
        dueFault("table 4 3;hole 0 1 1 3;", 21);
        dueFault("hole 1 1 0 1;", 9);
        dueFault("book 1 1 1 0;", 11);
        dueFault("book 7 7 2 1;", 9);
        dueFault("book 7 7 1 2;", 11);
        dueFault("toy 0 1 1 1;", 4);
        dueFault("toy 4 1 1 1;", 4);
        dueFault("toy 1 0 1 1;", 6);
        dueFault("toy 1 8 1 1;", 6);
        dueFault("toy 1 1 10 1;", 8);
        dueFault("toy 1 1 1 1000;", 10);
        dueFault("toy 1 1 1 99999999999999999999;", 10);
        dueFault("toy 1 1 1 4294967297;", 10);
        dueFault("bell 00 0;", 5);
        dueFault("bell 0 01;", 7);
        dueFault("bell -1 0;", 5);
        dueFault("bell 1 1 1;", 9);
        dueFault("bell 1;", 6);
        dueFault("bell ;", 5);
        dueFault("bell 1 toy", 7);
        dueFault("bell 1 1 toy", 9);
        dueFault("bell 1 1;;", 9);
        dueFault("bell 1 1;5", 9);
        dueFault("bell 1 1;bellbell 1 1;", 9);
        dueFault("bell 1 1;\n", 9);
        dueFault("bell 1\n1;", 6);
    }

    private static void promise5Cell() {
        TinMouse x = Checks.told("table 4 3;book 0 0 2 1;hole 1 0 2 1;book 2 0 1 1;");
        due("a book", x.cell(0, 0), 2);
        due("a hole told behind a book", x.cell(1, 0), 1);
        due("a book told behind a hole", x.cell(2, 0), 1);
        due("wood", x.cell(3, 0), 0);
        due("the last cell", x.cell(3, 2), 0);
        int[][] off = {{-1, 0}, {4, 0}, {0, -1}, {0, 3}, {4, 3}};
        for (int[] c : off) {
            due("cell(" + c[0] + ", " + c[1] + ")", x.cell(c[0], c[1]), BAD);
        }
        for (int far : FAR) {
            due("cell(" + far + ", 0)", x.cell(far, 0), BAD);
            due("cell(0, " + far + ")", x.cell(0, far), BAD);
        }
    }

    private static void promise6Told() {
        TinMouse x = Checks.told("table 4 5;toy 2 6 8 11;bell 3 4;start 2 1 5;");
        int[] told = {4, 5, 2, 6, 8, 11, 19, 6, 5};
        for (int what = 0; what < told.length; what++) {
            due("told(" + what + ")", x.told(what), told[what]);
        }
        x.go(3);
        x.wind(500);
        x.put(0, 0, 0);
        due("SPRING at first stays", x.told(5), 11);
        due("START's cell stays", x.told(7), 6);
        due("told(-1)", x.told(-1), BAD);
        due("told(9)", x.told(9), BAD);
        for (int far : FAR) {
            due("told(" + far + ")", x.told(far), BAD);
        }
    }

    private static void promise7Toy() {
        TinMouse x = new TinMouse();
        due("toy(0, 3)", x.toy(0, 3), 1);
        due("toy(0, 2)", x.toy(0, 2), 3);
        due("toy(1, 7)", x.toy(1, 7), 3);
        due("toy(1, 1)", x.toy(1, 1), 7);
        due("toy(2, 9)", x.toy(2, 9), 0);
        due("toy(2, 0)", x.toy(2, 0), 9);
        int[][] bad = {{0, 0}, {0, 4}, {1, 0}, {1, 8}, {2, -1}, {2, 10}, {3, 1}, {-1, 1}};
        for (int[] b : bad) {
            due("toy(" + b[0] + ", " + b[1] + ")", x.toy(b[0], b[1]), BAD);
        }
        for (int far : FAR) {
            due("toy(" + far + ", 1)", x.toy(far, 1), BAD);
            due("toy(0, " + far + ")", x.toy(0, far), BAD);
        }
        due("told(2)", x.told(2), 2);
        due("told(3)", x.told(3), 1);
        due("told(4)", x.told(4), 0);
        x.anew();
        due("anew() leaves the toy", x.told(2), 2);
        x.put(5, 0, 2);
        due("a nose of 2 stops one cell ahead of the last", x.go(2), 2);
        dueNow("nose of 2", x, 6, 3);
    }

    private static void promise8Go() {
        TinMouse x = new TinMouse();
        due("go(0)", x.go(0), BAD);
        due("go(1000)", x.go(1000), BAD);
        for (int far : FAR) {
            due("go(" + far + ")", x.go(far), BAD);
        }
        due("go(7)", x.go(7), 7);
        dueNow("along the edge", x, 7, 2, 0, 193, 0, 7, 7, 0, 0, NONE);
        due("go(1)", x.go(1), 1);
        dueNow("it turned", x, 7, 5, 0, 192, 0, 8, 7, 1, 0, 2);
        due("go(999)", x.go(999), 192);
        due("it is ended", x.now(4), 1);
        due("go(1) when ended", x.go(1), STATE);
        due("go(0) when ended", x.go(0), BAD);
        TinMouse still = Checks.told("toy 1 3 0 0;");
        due("no spring at first", still.go(5), STATE);
        due("no spring is ended", still.now(4), 1);
        TinMouse full = Checks.told("toy 1 3 0 999;");
        due("go(999)", full.go(999), 999);
        TinMouse bell = Checks.told("table 5 3;bell 2 0;toy 1 4 0 100;");
        bell.go(12);
        due("it rings each time it comes by", bell.now(8), 3);
        bell.put(4, 0, 2);
        bell.go(1);
        due("a turn rings not", bell.now(8), 3);
        TinMouse onBell = Checks.told("table 5 3;bell 0 0;toy 1 4 0 100;start 0 0 6;");
        onBell.go(1);
        due("a turn on the bell rings not", onBell.now(8), 0);
        onBell.go(9);
        due("back on the bell it rings", onBell.now(8), 1);
        TinMouse buried = Checks.told("table 5 3;bell 2 0;hole 2 0 1 1;toy 2 4 0 100;");
        buried.put(1, 0, 2);
        due("it falls", buried.go(5), 1);
        due("a bell in a hole rings not", buried.now(8), 0);
    }

    private static int turnAt(String text, int steps) {
        TinMouse x = Checks.told(text);
        x.go(steps);
        return x.now(9);
    }

    private static void promise8Turns() {
        due("square", turnAt("start 7 3 2;", 1), 2);
        due("slanting", turnAt("start 3 0 1;", 1), 1);
        due("cornered at 7", turnAt("start 0 0 7;", 1), 3);
        due("cornered at 1", turnAt("start 7 0 1;", 1), 3);
        due("cornered at 3", turnAt("start 7 7 3;", 1), 3);
        due("cornered at 5", turnAt("start 0 7 5;", 1), 3);
        due("cornered by the nose's length", turnAt("toy 3 1 0 9;start 5 2 1;", 1), 3);
        due("not cornered by a shorter nose", turnAt("toy 2 1 0 9;start 5 1 1;", 1), 1);
        due("cornered by holes", turnAt("hole 3 2 2 1;hole 4 3 1 1;start 3 3 1;", 1), 3);
        due("one wood beside is enough", turnAt("hole 3 2 1 1;hole 4 2 1 1;start 3 3 1;", 1), 1);
        due("the other one, too", turnAt("hole 4 2 1 2;start 3 3 1;", 1), 1);
        due("a book beside is wood", turnAt("hole 3 2 2 1;book 4 3 1 1;start 3 3 1;", 1), 1);
        due("struck", turnAt("book 1 0 1 1;", 1), 5);
        due("struck goes ahead of the nose", turnAt("toy 2 3 0 9;book 7 0 1 1;start 6 0 2;", 1), 5);
        due("a book two cells ahead is wood for the nose", turnAt("toy 2 3 0 9;book 2 0 1 1;", 1), NONE);
        String cage = "table 3 3;hole 0 0 3 1;hole 0 2 3 1;hole 0 1 1 1;hole 2 1 1 1;start 1 1 0;toy 1 2 0 99;";
        due("the third in a row", turnAt(cage, 3), 2);
        due("the fourth in a row", turnAt(cage, 4), 4);
        due("the fifth in a row", turnAt(cage, 5), 4);
        String slant = "table 3 3;hole 0 0 3 1;hole 0 2 3 1;hole 0 1 1 1;hole 2 1 1 1;start 1 1 1;toy 1 2 0 99;";
        due("the third slant in a row", turnAt(slant, 3), 3);
        due("sawing goes ahead of cornered", turnAt(slant, 4), 4);
        String shelf = "table 3 3;book 0 0 3 1;book 0 2 3 1;book 0 1 1 1;book 2 1 1 1;start 1 1 0;toy 1 2 0 99;";
        due("struck goes ahead of sawing", turnAt(shelf, 6), 5);
        String mixed = "table 3 3;book 0 0 3 1;hole 0 2 3 1;hole 0 1 1 1;hole 2 1 1 1;start 1 1 0;toy 1 2 0 99;";
        due("a struck one counts in the row", turnAt(mixed, 4), 4);
        due("and so it goes on", turnAt(mixed, 5), 5);
        TinMouse x = Checks.told("table 3 3;toy 1 2 0 999;start 1 1 0;");
        x.go(5);
        due("moves between", x.now(6), 3);
        due("turns are none in a row with a move between", x.now(9), 2);
    }

    private static void promise8Falls() {
        TinMouse x = Checks.told("table 5 3;hole 2 1 1 1;toy 2 2 0 9;start 1 1 2;");
        due("go(9) into a hole", x.go(9), 1);
        dueNow("fallen", x, 7, 2, 0, 8, 2, 1, 1, 0, 0, NONE);
        due("go(1) when over", x.go(1), STATE);
        due("go(0) when over", x.go(0), BAD);
        TinMouse last = Checks.told("table 5 3;hole 2 1 1 1;toy 2 2 0 1;start 1 1 2;");
        last.go(1);
        due("over goes ahead of ended", last.now(4), 2);
        TinMouse bent = Checks.told("table 5 3;hole 2 1 1 1;toy 2 2 1 9;start 1 1 2;");
        bent.go(1);
        dueNow("the foot bends not in a fall", bent, 7, 2, 0);
        TinMouse short1 = Checks.told("table 5 3;hole 2 1 1 1;toy 1 2 0 9;start 1 1 2;");
        due("a nose of 1 falls not", short1.go(9), 9);
        TinMouse hole = Checks.told("hole 0 0 1 1;");
        due("over at once", hole.now(4), 2);
        due("its cell", hole.now(0), 0);
        due("go(1) of it", hole.go(1), STATE);
        TinMouse book = Checks.told("book 0 0 1 1;");
        due("a start on a book goes", book.now(4), 0);
        due("and moves off", book.go(3), 3);
        due("to", book.now(0), 3);
    }

    private static void promise8Bends() {
        TinMouse x = Checks.told("toy 1 1 2 999;start 3 3 2;");
        x.go(1);
        dueNow("a move", x, 28, 2, 1);
        x.go(1);
        dueNow("the second bends", x, 29, 3, 0);
        x.go(4);
        dueNow("two and two more", x, 63, 5, 0);
        x.go(1);
        dueNow("a slant turn", x, 63, 6, 0, 992, 0, 7, 6, 1, 0, 1);
        x.go(1);
        dueNow("on along the edge", x, 62, 6, 1);
        TinMouse seven = Checks.told("toy 1 1 1 999;start 3 5 7;");
        seven.go(1);
        dueNow("7 bends to 0", seven, 34, 0, 0);
        TinMouse turn = Checks.told("toy 1 7 3 999;start 6 0 2;");
        turn.go(2);
        dueNow("BENT stays in a turn, and 2 and 7 are 1", turn, 7, 1, 1);
        TinMouse less = Checks.told("toy 1 1 9 999;start 0 3 2;");
        less.go(5);
        due("BENT", less.now(2), 5);
        less.toy(2, 3);
        less.go(1);
        dueNow("it is at least BEND", less, 30, 3, 0);
        TinMouse none = Checks.told("toy 1 1 9 999;start 0 3 2;");
        none.go(5);
        none.toy(2, 0);
        none.go(2);
        dueNow("BEND 0 leaves BENT", none, 31, 2, 5);
    }

    private static void promise9Wind() {
        TinMouse x = new TinMouse();
        due("wind(0)", x.wind(0), 200);
        due("ended", x.now(4), 1);
        due("wind(999)", x.wind(999), 0);
        due("goes again", x.now(4), 0);
        due("wind(1000)", x.wind(1000), BAD);
        due("wind(-1)", x.wind(-1), BAD);
        for (int far : FAR) {
            due("wind(" + far + ")", x.wind(far), BAD);
        }
        due("now(3)", x.now(3), 999);
        due("go(999)", x.go(999), 999);
        TinMouse over = Checks.told("hole 0 0 1 1;");
        due("wind when over", over.wind(4), STATE);
        due("BAD goes ahead of STATE", over.wind(1000), BAD);
        due("nothing changed", over.now(3), 200);
    }

    private static void promise10Put() {
        TinMouse x = Checks.told("table 6 5;hole 1 1 1 1;book 2 2 1 1;toy 1 1 4 50;");
        x.go(7);
        due("put(0, 0, 7)", x.put(0, 0, 7), 1);
        due("put(5, 4, 3)", x.put(5, 4, 3), 1);
        dueNow("put", x, 29, 3, 0, 43, 0, 7, 6, 1, 0, 1);
        int[][] bad = {{1, 1, 0}, {2, 2, 0}, {6, 0, 0}, {0, 5, 0}, {-1, 0, 0}, {0, -1, 0}, {0, 0, -1}, {0, 0, 8}};
        for (int[] b : bad) {
            due("put(" + b[0] + ", " + b[1] + ", " + b[2] + ")", x.put(b[0], b[1], b[2]), BAD);
        }
        for (int far : FAR) {
            due("put(" + far + ", 0, 0)", x.put(far, 0, 0), BAD);
            due("put(0, " + far + ", 0)", x.put(0, far, 0), BAD);
            due("put(0, 0, " + far + ")", x.put(0, 0, far), BAD);
        }
        dueNow("as it was put", x, 29, 3, 0, 43, 0, 7, 6, 1, 0, 1);
        x.go(3);
        due("three turns in a row", x.rate(4), 4 + 1 + 3);
        x.put(5, 4, 3);
        due("no turns in a row", x.rate(4), 4 + 1 + 0);
        x.go(1);
        due("the first in a row", x.now(9), 3);
        TinMouse over = Checks.told("hole 0 0 1 1;");
        due("put when over", over.put(3, 3, 3), 1);
        due("it goes", over.now(4), 0);
        TinMouse ended = Checks.told("toy 1 1 0 0;");
        due("put when ended", ended.put(3, 3, 3), 1);
        due("it is ended still", ended.now(4), 1);
    }

    private static void promise11Anew() {
        TinMouse x = Checks.told("table 6 5;toy 1 1 4 50;start 2 2 2;bell 3 2;");
        x.track(4);
        x.lot(7);
        x.go(30);
        x.keep(0);
        due("anew()", x.anew(), 30);
        dueNow("as at first", x, 14, 2, 0, 50, 0, 0, 0, 0, 0, NONE);
        due("anew() again", x.anew(), 0);
        due("the tracks stay", x.count(3), 1);
        due("the images stay", x.back(0), 30);
        due("the lot stays", x.lot(1), 7);
        due("no turn is in a row", Checks.told("start 0 0 7;").anew(), 0);
        TinMouse hole = Checks.told("hole 0 0 1 1;");
        hole.put(3, 3, 2);
        hole.go(2);
        due("anew()", hole.anew(), 2);
        due("over at once", hole.now(4), 2);
    }

    private static void promise12Now() {
        TinMouse x = Checks.told("table 6 5;toy 1 3 3 50;bell 3 0;start 2 0 2;");
        x.go(4);
        dueNow("bent at the edge, then turned", x, 5, 6, 0, 46, 0, 4, 3, 1, 1, 1);
        due("now(-1)", x.now(-1), BAD);
        due("now(10)", x.now(10), BAD);
        for (int far : FAR) {
            due("now(" + far + ")", x.now(far), BAD);
        }
    }

    private static void promise13Round() {
        TinMouse x = Checks.told("table 5 3;toy 1 4 0 9;start 2 1 2;");
        due("TAIL to and fro", x.round(0), 0);
        due("LENGTH", x.round(1), 10);
        due("MOVES", x.round(2), 8);
        due("CELLS", x.round(3), 5);
        TinMouse tail = Checks.told("table 5 5;toy 1 2 0 0;start 2 2 0;");
        due("TAIL, ended too", tail.round(0), 3);
        due("LENGTH round the edge", tail.round(1), 20);
        due("MOVES round the edge", tail.round(2), 16);
        due("CELLS round the edge", tail.round(3), 16);
        TinMouse saws = Checks.told("table 5 3;hole 2 1 1 1;toy 2 2 0 9;start 0 1 0;");
        int[] sawing = {0, 4, 0, 1};
        for (int what = 0; what < sawing.length; what++) {
            due("it saws for ever: round(" + what + ")", saws.round(what), sawing[what]);
        }
        TinMouse down = Checks.told("table 6 3;hole 4 1 1 1;toy 1 2 0 9;start 3 1 2;");
        down.toy(0, 2);
        due("TAIL is the steps to the fall", down.round(0), 1);
        due("else 0", down.round(1), 0);
        due("else 0", down.round(2), 0);
        due("else 0", down.round(3), 0);
        due("round(-1)", x.round(-1), BAD);
        due("round(4)", x.round(4), BAD);
        for (int far : FAR) {
            due("round(" + far + ")", x.round(far), BAD);
        }
        down.go(1);
        due("round(0) when over", down.round(0), STATE);
        due("BAD goes ahead of STATE", down.round(4), BAD);
        TinMouse nine = Checks.told("table 16 16;toy 1 1 9 9;start 8 8 3;");
        due("a long way ends", nine.round(1) > 0 ? 1 : 0, 1);
        due("asking moves nothing", nine.now(5), 0);
    }

    private static void promise14Starts() {
        String cage = "table 3 3;hole 0 0 3 1;hole 0 2 3 1;hole 0 1 1 1;hole 2 1 1 1;start 1 1 0;toy 1 2 0 99;";
        int[] one = {8, 0, 8, 2, 4};
        TinMouse x = Checks.told(cage);
        for (int what = 0; what < one.length; what++) {
            due("one cell: starts(" + what + ")", x.starts(what), one[what]);
        }
        // up and down, left and right, and the two slants of a table of 3 3
        TinMouse fro = Checks.told("table 3 3;toy 1 4 0 9;");
        due("how many", fro.starts(0), 72);
        due("fall", fro.starts(1), 0);
        due("trapped: the corners' slants", fro.starts(2), 8);
        due("rounds", fro.starts(3), 3 + 3 + 2 * 5);
        due("the longest", fro.starts(4), 6);
        for (int what = 0; what < one.length; what++) {
            due("one cell, asked again: starts(" + what + ")", x.starts(what), one[what]);
        }
        TinMouse shorter = Checks.told("table 5 3;toy 1 4 0 9;");
        due("the longest of 5 3", shorter.starts(4), 10);
        shorter.toy(1, 2);
        due("round the edge by another turn", shorter.starts(4), 16);
        TinMouse none = Checks.told("hole 0 0 8 4;book 0 4 8 4;start 0 5 0;");
        for (int what = 0; what <= 4; what++) {
            due("no starts: starts(" + what + ")", none.starts(what), 0);
        }
        TinMouse falls = Checks.told("table 4 3;hole 0 0 4 1;hole 0 2 4 1;hole 2 1 1 1;toy 2 4 0 9;");
        due("on three cells", falls.starts(0), 24);
        due("from either side of the hole, at once or behind a turn", falls.starts(1), 4);
        due("starts(-1)", x.starts(-1), BAD);
        due("starts(5)", x.starts(5), BAD);
        for (int far : FAR) {
            due("starts(" + far + ")", x.starts(far), BAD);
        }
    }

    private static void promise15Rings() {
        TinMouse x = Checks.told("table 5 3;bell 2 1;toy 1 4 0 9;");
        due("on the bell", x.rings(0), 8);
        due("from beside it", x.rings(1), 16);
        due("all that come by at last", x.rings(999), x.rings(30));
        due("no bell", Checks.told("table 5 3;").rings(999), 0);
        due("a bell in a hole", Checks.told("table 5 3;bell 2 1;hole 2 1 1 1;toy 2 4 0 9;").rings(999), 0);
        due("a bell under a book", Checks.told("table 5 3;bell 2 1;book 2 1 1 1;").rings(999), 0);
        due("rings(-1)", x.rings(-1), BAD);
        due("rings(1000)", x.rings(1000), BAD);
        for (int far : FAR) {
            due("rings(" + far + ")", x.rings(far), BAD);
        }
        TinMouse row = Checks.told("table 5 3;hole 0 0 5 1;hole 0 2 5 1;bell 4 1;toy 1 4 0 9;");
        int[] want = {8, 9, 10, 11, 12, 13, 14, 15, 16, 16};
        for (int n = 0; n < want.length; n++) {
            due("to and fro: rings(" + n + ")", row.rings(n), want[n]);
        }
    }

    private static void promise16Common() {
        TinMouse cage = Checks.told("table 3 3;hole 0 0 3 1;hole 0 2 3 1;hole 0 1 1 1;hole 2 1 1 1;");
        due("one cell", cage.common(), 4);
        due("asked again", cage.common(), 4);
        due("two rounds apart", Checks.told("table 3 3;toy 1 4 0 9;").common(), NONE);
        due("no starts, no rounds", Checks.told("hole 0 0 8 8;").common(), NONE);
        String cross = "table 3 3;hole 0 0 1 1;hole 2 0 1 1;hole 0 2 1 1;hole 2 2 1 1;toy 1 2 0 9;";
        due("a cross", Checks.told(cross).common(), commonOfCross());
    }

    /** Held against the plain telling, as a cross has many rounds. */
    private static int commonOfCross() {
        PlainMouse plain = new PlainMouse();
        String cross = "table 3 3;hole 0 0 1 1;hole 2 0 1 1;hole 0 2 1 1;hole 2 2 1 1;toy 1 2 0 9;";
        for (char c : cross.toCharArray()) {
            plain.type(c, 1);
        }
        plain.table();
        return plain.common();
    }

    private static void promise17Safe() {
        due("no holes", new TinMouse().safe(), 7);
        due("no starts", Checks.told("hole 0 0 8 8;").safe(), 7);
        TinMouse one = Checks.told("table 9 9;hole 4 4 1 1;");
        due("one hole in the middle", one.safe(), 1);
        one.toy(0, 3);
        due("the nose as it is is not asked", one.safe(), 1);
        due("and stays", one.told(2), 3);
        due("ways by it are as ever", one.starts(1) > 0 ? 1 : 0, 1);
        due("one hole between two cells", Checks.told("table 3 3;hole 0 0 3 1;hole 0 2 3 1;hole 1 1 1 1;").safe(), 5);
        due("two holes between two cells", Checks.told("table 4 3;hole 0 0 4 1;hole 0 2 4 1;hole 1 1 2 1;").safe(), 3);
    }

    private static void promise18Covers() {
        TinMouse x = new TinMouse();
        due("covers(0)", x.covers(0), 1);
        due("covers(7)", x.covers(7), 8);
        due("covers(8): a turn", x.covers(8), 8);
        due("covers(9)", x.covers(9), 9);
        due("covers(9999)", x.covers(9999), 40);
        due("covers(10000)", x.covers(10000), BAD);
        due("covers(-1)", x.covers(-1), BAD);
        for (int far : FAR) {
            due("covers(" + far + ")", x.covers(far), BAD);
        }
        x.wind(0);
        due("ended, by an endless spring", x.covers(7), 8);
        due("asking moves nothing", x.now(0), 0);
        TinMouse falls = Checks.told("table 6 3;hole 3 1 1 1;toy 2 2 0 9;start 1 1 2;");
        falls.put(2, 1, 2);
        due("where it falls no wood counts", falls.covers(9), 1);
        falls.go(1);
        due("covers(1) when over", falls.covers(1), STATE);
        due("BAD goes ahead of STATE", falls.covers(10000), BAD);
    }

    private static void promise19Everywhere() {
        due("never", new TinMouse().everywhere(), NONE);
        due("a row, from its end", Checks.told("table 5 3;hole 0 0 5 1;hole 0 2 5 1;start 0 1 2;").everywhere(), 4);
        due("from its middle, to and fro",
            Checks.told("table 5 3;hole 0 0 5 1;hole 0 2 5 1;start 2 1 2;toy 1 4 0 9;").everywhere(), 2 + 1 + 4);
        due("books are let be", Checks.told("table 5 3;hole 0 0 5 1;hole 0 2 5 1;start 1 1 2;book 0 1 1 1;")
            .everywhere(), 3);
        due("no wood without books", Checks.told("book 0 0 8 8;").everywhere(), 0);
        due("there at once", Checks.told("table 3 3;book 0 0 3 2;book 0 2 2 1;start 2 2 0;").everywhere(), 0);
        due("it falls ahead of that",
            Checks.told("table 5 3;hole 0 0 5 1;hole 0 2 5 1;hole 1 1 1 1;start 0 1 2;toy 2 4 0 9;").everywhere(), NONE);
        due("ended, by an endless spring",
            Checks.told("table 5 3;hole 0 0 5 1;hole 0 2 5 1;start 0 1 2;toy 1 4 0 0;").everywhere(), 4);
        due("over", Checks.told("hole 0 0 1 1;").everywhere(), STATE);
    }

    private static void promise20Best() {
        TinMouse x = new TinMouse();
        due("all alike: the least", x.best(0), 1);
        due("all alike: the least", x.best(7), 1);
        due("best(100)", x.best(100), 3);
        due("the turn stays", x.told(3), 3);
        due("asking moves nothing", x.now(5), 0);
        x.toy(1, 6);
        due("whatever turn it has", x.best(100), 3);
        due("best(-1)", x.best(-1), BAD);
        due("best(1000)", x.best(1000), BAD);
        for (int far : FAR) {
            due("best(" + far + ")", x.best(far), BAD);
        }
        for (int turn = 1; turn <= 7; turn++) {
            due("the one that moves", Checks.told("table 3 3;start 1 1 2;hole 2 1 1 1;" + starHoles((2 + turn) % 8))
                .best(2), turn);
        }
        due("best(999)", x.best(999), 3);
        TinMouse corner = Checks.told("start 7 0 2;");
        due("down along the edge by 2, or in by 3: the least that moves", corner.best(2), 2);
        TinMouse over = Checks.told("hole 0 0 1 1;");
        due("over", over.best(9), STATE);
        due("BAD goes ahead of STATE", over.best(1000), BAD);
    }

    private static void promise21Track() {
        TinMouse x = Checks.told("table 4 3;hole 1 1 1 1;book 2 2 1 1;");
        due("track(0)", x.track(0), 1);
        due("track(11)", x.track(11), 2);
        due("a hole is a cell, too", x.track(5), 3);
        due("track(12)", x.track(12), BAD);
        due("track(-1)", x.track(-1), BAD);
        for (int far : FAR) {
            due("track(" + far + ")", x.track(far), BAD);
        }
        for (int i = 4; i <= 16; i++) {
            due("track(3)", x.track(3), i);
        }
        due("a 17th", x.track(3), FULL);
        due("BAD goes ahead of FULL", x.track(12), BAD);
        due("count(3)", x.count(3), 16);
        x.anew();
        due("anew() leaves them", x.count(3), 16);
    }

    private static void promise22Wipe() {
        TinMouse x = new TinMouse();
        due("wipe() of none", x.wipe(), 0);
        x.track(1);
        x.track(2);
        due("wipe()", x.wipe(), 2);
        due("count(3)", x.count(3), 0);
        due("track(9)", x.track(9), 1);
    }

    private static void promise23Fits() {
        TinMouse x = new TinMouse();
        due("none told", x.fits(0), 560);
        due("none told: the first", x.fits(1), 100);
        x.track(27);
        due("one told", x.fits(0), 560);
        x.track(28);
        due("a move to the right: each turn and bend", x.fits(0), 70);
        due("the first", x.fits(1), 102);
        x.track(29);
        x.track(38);
        due("bent at the second", x.fits(0), 7);
        due("the first", x.fits(1), 122);
        x.track(20);
        due("none goes so", x.fits(0), 0);
        due("none goes so: the first", x.fits(1), NONE);
        due("fits(-1)", x.fits(-1), BAD);
        due("fits(2)", x.fits(2), BAD);
        for (int far : FAR) {
            due("fits(" + far + ")", x.fits(far), BAD);
        }
        x.wipe();
        x.track(7);
        x.track(7);
        x.track(15);
        due("a turn at the corner into down: by 5 ways", x.fits(0), 50);
        due("the first", x.fits(1), 103);
        x.wipe();
        for (int cell : new int[] {36, 27, 18, 9, 0, 0, 8}) {
            x.track(cell);
        }
        due("to the corner and down: turned by 5, bent at 0, 5, 6, .., or by 4, bent at 4 there", x.fits(0), 7);
        due("the first", x.fits(1), 447);
        TinMouse hole = Checks.told("table 5 3;hole 2 1 1 1;toy 2 4 0 9;");
        hole.track(7);
        due("one told, a hole", hole.fits(0), 560);
        hole.track(7);
        due("the first is no wood", hole.fits(0), 0);
        hole.wipe();
        hole.track(6);
        hole.track(7);
        due("it may not fall", hole.fits(0), 0);
        TinMouse book = Checks.told("table 5 3;book 1 1 1 1;");
        book.track(6);
        book.track(7);
        due("a book is wood", book.fits(0), 70);
        book.toy(0, 3);
        due("the nose as it is", book.fits(0), 70);
        book.wipe();
        book.track(7);
        book.track(8);
        due("a nose of 3 turns there", book.fits(0), 0);
    }

    private static void promise24Meet() {
        TinMouse x = Checks.told("table 7 3;toy 1 4 0 9;start 0 1 2;hole 6 0 1 1;book 6 2 1 1;");
        due("on its own cell", x.meet(0, 1, 5), 0);
        due("head on, after three", x.meet(6, 1, 6), 3);
        due("they pass", x.meet(5, 1, 6), NONE);
        due("the one ahead comes back", x.meet(5, 1, 2), 4);
        due("across its way, after many times", x.meet(3, 0, 0), 17);
        due("never", x.meet(3, 0, 2), NONE);
        due("meet(0, 0, 7)", x.meet(0, 0, 7) >= NONE ? 1 : 0, 1);
        String wide = "table 14 16;book 5 14 1 1;book 3 1 1 1;toy 1 5 1 9;";
        due("as late as may be", Checks.told(wide + "start 12 6 7;").meet(0, 10, 7), 4096);
        due("one too late", Checks.told(wide + "start 13 6 6;").meet(1, 10, 6), NONE);
        TinMouse bends = Checks.told("table 7 4;toy 1 4 2 9;start 3 3 0;");
        due("the other one is not bent yet", bends.meet(1, 2, 1), 3);
        int[][] bad = {{6, 0, 0}, {6, 2, 0}, {7, 0, 0}, {0, 3, 0}, {-1, 0, 0}, {0, -1, 0}, {0, 0, -1}, {0, 0, 8}};
        for (int[] b : bad) {
            due("meet(" + b[0] + ", " + b[1] + ", " + b[2] + ")", x.meet(b[0], b[1], b[2]), BAD);
        }
        for (int far : FAR) {
            due("meet(" + far + ", 0, 0)", x.meet(far, 0, 0), BAD);
            due("meet(0, " + far + ", 0)", x.meet(0, far, 0), BAD);
            due("meet(0, 0, " + far + ")", x.meet(0, 0, far), BAD);
        }
        due("asking moves nothing", x.now(5), 0);
        x.wind(0);
        due("ended, by endless springs", x.meet(6, 1, 6), 3);
        TinMouse falls = Checks.told("table 7 3;hole 3 1 1 1;toy 2 4 0 9;start 2 1 2;");
        due("both fall into one hole", falls.meet(4, 1, 6), NONE);
        falls.go(1);
        due("over", falls.meet(0, 0, 0), STATE);
        due("BAD goes ahead of STATE", falls.meet(3, 1, 0), BAD);
    }

    private static void promise25Drawn() {
        TinMouse x = Checks.told("start 7 0 2;");
        // the lot goes on to 1103527590, whose upper 16 bits are 16838 = 7 * 2405 + 3: a turn of 4
        due("drawn(0)", x.drawn(0), 1);
        due("no draw yet", x.lot(1), 1);
        due("drawn(1): it turns", x.drawn(1), 1);
        due("the lot went on", x.lot(1), 1103527590);
        due("drawn(8): back along the edge", x.drawn(8), 8);
        due("one draw", x.lot(-5), 1103527590);
        due("drawn(1)", x.drawn(1), 1);
        due("wrapped, and below 0", x.lot(1), -5 * 1103515245 + 12345);
        due("drawn(-1)", x.drawn(-1), BAD);
        due("drawn(1000)", x.drawn(1000), BAD);
        for (int far : FAR) {
            due("drawn(" + far + ")", x.drawn(far), BAD);
        }
        due("no draw in a refusal", x.lot(1), 1);
        due("the turn stays", x.told(3), 3);
        due("asking moves nothing", x.now(5), 0);
        TinMouse high = Checks.told("table 3 3;hole 0 0 3 1;hole 0 2 3 1;hole 2 1 1 1;start 1 1 2;");
        high.lot(lotAheadOf(0x8003_0000));
        due("upper bits as a number from 0 on: 32771 = 7 * 4681 + 4, a turn of 5, then on", high.drawn(1), 1);
        due("so the lot is", high.lot(1), 0x8003_0000);
        TinMouse falls = Checks.told("table 6 3;hole 3 1 1 1;toy 2 2 0 9;start 2 1 2;");
        due("where it falls no wood counts", falls.drawn(9), 1);
        due("no draws behind the fall", falls.lot(1), 1);
        falls.go(1);
        due("over", falls.drawn(9), STATE);
        due("BAD goes ahead of STATE", falls.drawn(1000), BAD);
        due("a high half left over by 7", turnByLot(0x8003_0000), 1 + 32771 % 7);
        due("the highest half left over by 7", turnByLot(0xFFFF_0000), 1 + 65535 % 7);
        due("the low half is not asked", turnByLot(0x0006_FFFF), 7);
    }

    /** The lot that goes on to a number. */
    private static int lotAheadOf(int next) {
        int inverse = 1103515245;
        for (int i = 0; i < 5; i++) {
            inverse *= 2 - 1103515245 * inverse;
        }
        return (next - 12345) * inverse;
    }

    /** By how much it turns first, when the lot goes on to a number: the arms of a star are of unlike length. */
    private static int turnByLot(int next) {
        for (int turn = 1; turn <= 7; turn++) {
            // all but one cell beside the middle are holes, so it moves on at once only by one turn
            int d = (2 + turn) % 8;
            TinMouse x = Checks.told("table 3 3;start 1 1 2;hole 2 1 1 1;" + starHoles(d));
            x.lot(lotAheadOf(next));
            if (x.drawn(2) == 2) {
                return turn;
            }
        }
        return NONE;
    }

    private static String starHoles(int but) {
        int[][] way = {{1, 0}, {2, 0}, {2, 1}, {2, 2}, {1, 2}, {0, 2}, {0, 1}, {0, 0}};
        StringBuilder s = new StringBuilder();
        for (int d = 0; d < 8; d++) {
            if (d != but) {
                s.append("hole ").append(way[d][0]).append(' ').append(way[d][1]).append(" 1 1;");
            }
        }
        return s.toString();
    }

    private static void promise26Lot() {
        TinMouse x = new TinMouse();
        due("lot(MIN)", x.lot(Integer.MIN_VALUE), 1);
        due("lot(MAX)", x.lot(Integer.MAX_VALUE), Integer.MIN_VALUE);
        due("lot(0)", x.lot(0), Integer.MAX_VALUE);
        x.anew();
        due("anew() leaves it", x.lot(5), 0);
    }

    private static void promise27Key() {
        TinMouse x = new TinMouse();
        int[][] bad = {{0, 0}, {10, 0}, {1, -1}, {1, 1000}};
        for (int[] b : bad) {
            due("key(" + b[0] + ", " + b[1] + ")", x.key(b[0], b[1]), BAD);
        }
        for (int far : FAR) {
            due("key(" + far + ", 1)", x.key(far, 1), BAD);
            due("key(1, " + far + ")", x.key(1, far), BAD);
        }
        due("key(1, 0)", x.key(1, 0), 1);
        due("key(9, 999)", x.key(9, 999), 2);
        for (int i = 3; i <= 20; i++) {
            due("key(5, 5)", x.key(5, 5), i);
        }
        due("a 21st", x.key(5, 5), FULL);
        due("BAD goes ahead of FULL", x.key(10, 5), BAD);
        due("count(4)", x.count(4), 20);
    }

    private static void promise28Law() {
        TinMouse x = new TinMouse();
        due("no keys", x.law(1, 0), NO);
        x.key(2, 10);
        x.key(2, 50);
        due("all alike", x.law(1, 0), NO);
        due("all alike", x.law(1, 2), NO);
        x.key(4, 5);
        due("slope: upper", x.law(1, 0), -25);
        due("slope: lower", x.law(1, 1), 2);
        due("at 2: upper", x.law(2, 2), 30);
        due("at 2: lower", x.law(2, 3), 1);
        due("at 3: upper", x.law(3, 2), 35);
        due("at 3: lower", x.law(3, 3), 2);
        due("at 0: upper", x.law(0, 2), 55);
        due("at 0: lower", x.law(0, 3), 1);
        due("at 99: upper", x.law(99, 2), -2365);
        due("at 99: lower", x.law(99, 3), 2);
        int[][] bad = {{-1, 2}, {100, 2}, {100, 0}, {-1, 1}, {1, -1}, {1, 4}};
        for (int[] b : bad) {
            due("law(" + b[0] + ", " + b[1] + ")", x.law(b[0], b[1]), NO);
        }
        for (int far : FAR) {
            due("law(" + far + ", 2)", x.law(far, 2), NO);
            due("law(1, " + far + ")", x.law(1, far), NO);
        }
        TinMouse flat = new TinMouse();
        flat.key(1, 7);
        flat.key(9, 7);
        due("a slope of 0: upper", flat.law(5, 0), 0);
        due("a slope of 0: lower", flat.law(5, 1), 1);
        due("flat at 5: upper", flat.law(5, 2), 7);
        due("flat at 5: lower", flat.law(5, 3), 1);
        TinMouse zero = new TinMouse();
        zero.key(1, 0);
        zero.key(2, 1);
        due("0 at 1: upper", zero.law(1, 2), 0);
        due("0 at 1: lower", zero.law(1, 3), 1);
        TinMouse most = new TinMouse();
        for (int i = 0; i < 10; i++) {
            most.key(1, 0);
            most.key(i == 0 ? 8 : 9, 999);
        }
        due("the keys stay in a table read anew", most.table(), 0);
        PlainMouse plain = new PlainMouse();
        for (int i = 0; i < 10; i++) {
            plain.key(1, 0);
            plain.key(i == 0 ? 8 : 9, 999);
        }
        for (int what = 0; what <= 3; what++) {
            due("large: law(99, " + what + ")", most.law(99, what), plain.law(99, what));
        }
    }

    private static void promise29Circle() {
        TinMouse x = new TinMouse();
        int[][] want = {{1, 7, 7}, {2, 6, 3}, {0, 9, 1}, {180, 360, 1}, {0, 1, 1}, {1, 2, 1}, {1, 3, 3}, {1, 4, 2},
            {3, 8, 4}, {359, 360, 180}, {1, 359, 359}, {90, 360, 2}, {6, 9, 3}};
        for (int[] w : want) {
            due("circle(" + w[0] + ", " + w[1] + ")", x.circle(w[0], w[1]), w[2]);
        }
        int[][] bad = {{-1, 5}, {5, 5}, {6, 5}, {0, 0}, {0, 361}, {1, 361}, {0, -1}, {1, 1}, {-2, -1}};
        for (int[] b : bad) {
            due("circle(" + b[0] + ", " + b[1] + ")", x.circle(b[0], b[1]), BAD);
        }
        for (int far : FAR) {
            due("circle(" + far + ", 9)", x.circle(far, 9), BAD);
            due("circle(0, " + far + ")", x.circle(0, far), BAD);
        }
    }

    private static void promise30Rate() {
        TinMouse x = Checks.told("table 3 3;toy 1 3 0 99;start 2 1 2;");
        due("no turn", x.rate(0), NO);
        due("no turn, nothing in the trace", x.trace(), 0);
        // a turn to 5, a move to 1 2, a turn to 0, a move to 1 1, a move to 1 0, a turn to 3
        x.go(6);
        dueNow("six steps", x, 1, 3, 0, 93, 0, 6, 3, 3, 0, 2);
        due("TURN", x.rate(0), 3);
        due("SLANTING", x.rate(1), 3 + 3);
        due("SQUARE", x.rate(2), 3 + 1);
        due("CORNERED", x.rate(3), 2 * (3 + 3));
        due("SAWING", x.rate(4), 3 + 1 + 1);
        due("STRUCK", x.rate(5), 3 - 3);
        long trace = x.trace();
        due("rate(-1)", x.rate(-1), NO);
        due("rate(6)", x.rate(6), NO);
        for (int far : FAR) {
            due("rate(" + far + ")", x.rate(far), NO);
        }
        due("BAD adds nothing", x.trace(), trace);
        x.toy(0, 3);
        due("by the nose as it is", x.rate(2), 3 + 3);
        x.toy(0, 1);
        x.go(1);
        due("a move: none in a row", x.rate(4), 3 + 1);
        due("STRUCK may be below 0", x.rate(5), 3 - 4);
        x.anew();
        due("no turn anew", x.rate(0), NO);
    }

    private static void promise31Keep() {
        TinMouse x = new TinMouse();
        due("keep(0)", x.keep(0), 0);
        x.go(4);
        due("keep(1)", x.keep(1), 4);
        due("keep(2)", x.keep(2), BAD);
        due("keep(-1)", x.keep(-1), BAD);
        for (int far : FAR) {
            due("keep(" + far + ")", x.keep(far), BAD);
        }
        due("two images", x.back(0), 0);
        due("two images", x.back(1), 4);
        due("two images", x.back(0), 0);
        due("the first is where it was", x.now(0), 0);
        x.go(5);
        due("kept anew", x.keep(0), 5);
        x.anew();
        due("is what is kept", x.back(0), 5);
    }

    private static void promise32Back() {
        TinMouse x = Checks.told("table 4 4;toy 1 2 3 90;bell 2 0;start 1 0 2;");
        due("back(0) of none", x.back(0), STATE);
        due("back(2)", x.back(2), BAD);
        due("back(-1)", x.back(-1), BAD);
        for (int far : FAR) {
            due("back(" + far + ")", x.back(far), BAD);
        }
        x.lot(99);
        x.go(3);
        int[] kept = new int[10];
        for (int what = 0; what < 10; what++) {
            kept[what] = x.now(what);
        }
        int row = x.rate(4);
        x.keep(1);
        x.lot(3);
        x.go(29);
        int same = 0;
        for (int what = 0; what < 10; what++) {
            same += what != 4 && x.now(what) == kept[what] ? 1 : 0;
        }
        due("all but that it goes is another", same, 0);
        x.toy(0, 3);
        x.toy(1, 6);
        x.track(2);
        x.key(1, 1);
        long trace = x.trace();
        due("back(1)", x.back(1), 3);
        dueNow("back", x, kept);
        due("the lot, too", x.lot(98), 99);
        due("nothing of the toy", x.told(2), 3);
        due("nothing of the toy", x.told(3), 6);
        due("nothing of the tracks", x.count(3), 1);
        due("nothing of the keys", x.count(4), 1);
        due("nothing of the trace", x.trace(), trace);
        x.toy(0, 1);
        due("how many in a row, too", x.rate(4), row);
        due("back(0) still of none", x.back(0), STATE);
        due("back(1) again", x.back(1), 3);
        due("the lot again", x.lot(1), 99);
    }

    private static void promise33Count() {
        TinMouse x = Checks.told("table 5 4;hole 0 0 2 2;book 1 1 2 2;");
        x.track(1);
        x.track(1);
        x.key(1, 1);
        x.type(1, 3);
        int[] want = {20 - 4 - 3, 4, 3, 2, 1, 3};
        for (int what = 0; what < want.length; what++) {
            due("count(" + what + ")", x.count(what), want[what]);
        }
        due("count(-1)", x.count(-1), BAD);
        due("count(6)", x.count(6), BAD);
        for (int far : FAR) {
            due("count(" + far + ")", x.count(far), BAD);
        }
    }

    private static void promise34Trace() {
        int[] each = {1, 11, 101, 1011, 10101, 100001};
        TinMouse x = Checks.told("start 7 0 2;");
        x.go(1);
        long trace = 0;
        for (int kind = 0; kind < each.length; kind++) {
            x.rate(kind);
            trace += each[kind];
            due("trace() behind rate(" + kind + ")", x.trace(), trace);
        }
        x.keep(0);
        x.rate(5);
        x.back(0);
        due("goes on behind back()", x.trace(), trace + 100001);
        x.anew();
        due("goes on anew", x.trace(), trace + 100001);
        x.table();
        due("goes on behind a table", x.trace(), trace + 100001);
    }
}
