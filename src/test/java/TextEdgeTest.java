import java.util.Set;

/**
 * Terms, part 1, and promises 2 to 7: each sentence about the table and the text that names a boundary, on both
 * sides of it. The sentence stands above its test.
 */
public final class TextEdgeTest {
    private static final int BAD = -1, FULL = -3, NONE = -9;
    private static final Checks CHECKS = new Checks();

    private static void due(String call, long got, long want) {
        CHECKS.due(call, got, want);
    }

    public static void main(String[] args) {
        tableIsThreeToSixteen();
        tableAtFirst();
        cellNumbers();
        cellsAreFromZero();
        allOthersAreWood();
        bookOnHole();
        bellNoneAtFirst();
        toyNumbers();
        toyCall();
        toldNumbers();
        startDirections();
        textTakesThreeHundred();
        typeTakesOneToEight();
        highestByteFirst();
        clearEmpties();
        blanksOnly();
        blanksAnyNumber();
        blanksNeeded();
        itemsNone();
        itemsEnded();
        itemsMany();
        tableFirstOfAll();
        onceEach();
        onTheTable();
        cellsOfItems();
        words();
        bytesThatBeginNone();
        numbersAbove999();
        zeroAhead();
        endsTooEarly();
        endsWhereItEnds();
        firstFaultOfSeveral();
        faultPlaces();
        faultChangesNothing();
        tableTellsAll();
        tableForgetsEarlierTexts();
        tableEmptiesText();
        CHECKS.end();
    }

    /** The text is read: so many items. */
    private static void reads(String text, int items) {
        due("table() of \"" + text + "\"", Checks.tableOf(text), items);
    }

    /** The fault is where the second part begins; nothing changes, the text stays. */
    private static void fault(String ahead, String behind) {
        TinMouse x = new TinMouse();
        int bytes = Checks.typeText(x, ahead + behind);
        due("table() of \"" + ahead + "\" + \"" + behind + "\"", x.table(), -10 - ahead.length());
        due("count(5) behind \"" + ahead + behind + "\"", x.count(5), bytes);
        due("table() again of \"" + ahead + behind + "\"", x.table(), -10 - ahead.length());
        int told = x.told(0) + x.told(1) + x.told(2) + x.told(3) + x.told(4) + x.told(5);
        due("the table behind \"" + ahead + behind + "\"", told, 8 + 8 + 1 + 3 + 200);
        due("wood behind \"" + ahead + behind + "\"", x.count(0), 64);
        due("bell and start behind \"" + ahead + behind + "\"", x.told(6) + x.told(7) + x.told(8), NONE + 2);
    }

    // THE TABLE has WIDE times HIGH cells (3 .. 16 each ..)

    private static void tableIsThreeToSixteen() {
        for (int v = 3; v <= 16; v++) {
            TinMouse wide = Checks.told("table " + v + " 5;");
            due("WIDE " + v, wide.told(0), v);
            due("HIGH by WIDE " + v, wide.told(1), 5);
            due("cells by WIDE " + v, wide.count(0), 5 * v);
            due("the last of WIDE " + v, wide.cell(v - 1, 4), 0);
            due("beyond WIDE " + v, wide.cell(v, 4), BAD);
            TinMouse high = Checks.told("table 5 " + v + ";");
            due("HIGH " + v, high.told(1), v);
            due("WIDE by HIGH " + v, high.told(0), 5);
            due("cells by HIGH " + v, high.count(0), 5 * v);
            due("the last of HIGH " + v, high.cell(4, v - 1), 0);
            due("beyond HIGH " + v, high.cell(4, v), BAD);
        }
        for (int v : new int[] {0, 1, 2, 17, 18, 19, 32, 160, 259, 999}) {
            fault("table ", v + " 5;");
            fault("table 5 ", v + ";");
        }
        reads("table 3 3;", 1);
        reads("table 16 16;", 1);
        reads("table 3 16;", 1);
        reads("table 16 3;", 1);
    }

    // .. at first 8 and 8)

    private static void tableAtFirst() {
        TinMouse x = new TinMouse();
        due("WIDE at first", x.told(0), 8);
        due("HIGH at first", x.told(1), 8);
        due("the last cell at first", x.cell(7, 7), 0);
        due("beyond at first", x.cell(8, 7), BAD);
        due("below at first", x.cell(7, 8), BAD);
        Checks.typeText(x, "table 16 3;");
        x.table();
        Checks.typeText(x, "bell 7 7;");
        due("a text without a table", x.table(), 1);
        due("WIDE of it", x.told(0), 8);
        due("HIGH of it", x.told(1), 8);
        fault("bell ", "8 0;");
        fault("bell 0 ", "8;");
    }

    // cell x y (x to the right, y down, from 0; its number is WIDE times y and x)

    private static void cellNumbers() {
        int[][] sizes = {{3, 3}, {3, 16}, {16, 3}, {7, 5}, {16, 16}};
        for (int[] size : sizes) {
            for (int y = 0; y < size[1]; y++) {
                for (int x = 0; x < size[0]; x++) {
                    String at = " " + x + " " + y;
                    TinMouse mouse = Checks.told("table " + size[0] + " " + size[1] + ";bell" + at + ";start" + at + " 4;");
                    int number = size[0] * y + x;
                    due("BELL's cell" + at, mouse.told(6), number);
                    due("START's cell" + at, mouse.told(7), number);
                    due("the cell NOW" + at, mouse.now(0), number);
                }
            }
        }
    }

    private static void cellsAreFromZero() {
        int[][] sizes = {{3, 3}, {3, 16}, {16, 3}, {8, 8}, {16, 16}};
        for (int[] size : sizes) {
            TinMouse mouse = Checks.told("table " + size[0] + " " + size[1] + ";");
            String of = " of " + size[0] + " " + size[1];
            CHECKS.range("cell(x, 0)" + of, x -> mouse.cell(x, 0), 0, size[0] - 1, BAD);
            CHECKS.range("cell(x, last)" + of, x -> mouse.cell(x, size[1] - 1), 0, size[0] - 1, BAD);
            CHECKS.range("cell(0, y)" + of, y -> mouse.cell(0, y), 0, size[1] - 1, BAD);
            CHECKS.range("cell(last, y)" + of, y -> mouse.cell(size[0] - 1, y), 0, size[1] - 1, BAD);
        }
    }

    // Cells may be HOLES (all others on the table are WOOD), may have BOOKS

    private static void allOthersAreWood() {
        TinMouse x = Checks.told("table 5 4;hole 1 1 2 1;book 3 2 2 2;");
        for (int row = 0; row < 4; row++) {
            for (int column = 0; column < 5; column++) {
                boolean hole = row == 1 && (column == 1 || column == 2);
                boolean book = row >= 2 && column >= 3;
                due("cell(" + column + ", " + row + ")", x.cell(column, row), hole ? 1 : book ? 2 : 0);
            }
        }
        due("WOOD without a BOOK", x.count(0), 14);
        due("HOLES", x.count(1), 2);
        due("BOOKS on WOOD", x.count(2), 4);
        TinMouse all = Checks.told("table 16 16;hole 0 0 16 16;");
        due("all HOLES: WOOD", all.count(0), 0);
        due("all HOLES", all.count(1), 256);
        TinMouse full = Checks.told("table 16 16;book 0 0 16 16;");
        due("all BOOKS: WOOD", full.count(0), 0);
        due("all BOOKS", full.count(2), 256);
        due("no HOLES by BOOKS", full.count(1), 0);
    }

    // a BOOK on a HOLE is none (1)

    private static void bookOnHole() {
        TinMouse behind = Checks.told("hole 0 0 3 1;book 2 0 2 1;");
        due("a BOOK told behind its HOLE", behind.cell(2, 0), 1);
        due("its other cell", behind.cell(3, 0), 2);
        due("BOOKS on WOOD", behind.count(2), 1);
        due("HOLES", behind.count(1), 3);
        TinMouse ahead = Checks.told("book 2 0 2 1;hole 0 0 3 1;");
        due("a BOOK told ahead of its HOLE", ahead.cell(2, 0), 1);
        due("its other cell", ahead.cell(3, 0), 2);
        due("BOOKS on WOOD", ahead.count(2), 1);
        due("HOLES", ahead.count(1), 3);
        TinMouse twice = Checks.told("book 0 0 2 1;book 1 0 2 1;hole 5 5 2 1;hole 6 5 2 1;");
        due("a BOOK told twice is one", twice.count(2), 3);
        due("a HOLE told twice is one", twice.count(1), 3);
    }

    // one may have the BELL (none at first)

    private static void bellNoneAtFirst() {
        due("no BELL at first", new TinMouse().told(6), NONE);
        due("no BELL told", Checks.told("table 4 4;").told(6), NONE);
        due("the BELL on cell 0", Checks.told("bell 0 0;").told(6), 0);
        due("the BELL on the last cell", Checks.told("table 16 16;bell 15 15;").told(6), 255);
        due("the BELL in a HOLE", Checks.told("hole 1 0 1 1;bell 1 0;").told(6), 1);
        due("the BELL under a BOOK", Checks.told("book 2 0 1 1;bell 2 0;").told(6), 2);
    }

    // NOSE (1 .. 3; 1 at first), TURN (1 .. 7 eighths; 3), BEND (0 .. 9; 0), SPRING (0 .. 999; 200)

    private static void toyNumbers() {
        TinMouse first = new TinMouse();
        int[] atFirst = {1, 3, 0, 200};
        int[][] ranges = {{1, 3}, {1, 7}, {0, 9}, {0, 999}};
        for (int i = 0; i < 4; i++) {
            due("told(" + (2 + i) + ") at first", first.told(2 + i), atFirst[i]);
            String ahead = "toy " + "1 ".repeat(i);
            String behind = " 1".repeat(3 - i) + ";";
            for (int v = 0; v <= 12; v++) {
                oneToyNumber(ahead, v, behind, ranges[i], 2 + i);
            }
            for (int v : new int[] {99, 100, 257, 998, 999, 1000, 1001, 9999}) {
                oneToyNumber(ahead, v, behind, ranges[i], 2 + i);
            }
        }
    }

    private static void oneToyNumber(String ahead, int v, String behind, int[] range, int told) {
        if (v < range[0] || v > range[1]) {
            fault(ahead, v + behind);
        } else {
            due("told(" + told + ") of " + ahead + v, Checks.told(ahead + v + behind).told(told), v);
        }
    }

    // toy(what, v): NOSE (what = 0), TURN (1), BEND (2) of THE TOY becomes v: what it was. BAD.

    private static void toyCall() {
        int[][] ranges = {{1, 3}, {1, 7}, {0, 9}};
        int[] atFirst = {1, 3, 0};
        for (int what = 0; what < 3; what++) {
            int of = what;
            TinMouse x = new TinMouse();
            CHECKS.range("toy(" + what + ", v)", v -> x.toy(of, v), ranges[what][0], ranges[what][1], BAD);
            int was = atFirst[what];
            TinMouse y = new TinMouse();
            for (int v = ranges[what][0]; v <= ranges[what][1]; v++) {
                due("toy(" + what + ", " + v + ")", y.toy(what, v), was);
                due("told(" + (2 + what) + ") behind it", y.told(2 + what), v);
                was = v;
            }
            for (int other = 0; other < 3; other++) {
                due("another number of the toy stays", y.told(2 + other), other == what ? was : atFirst[other]);
            }
            due("SPRING at first stays", y.told(5), 200);
            due("SPRING left stays", y.now(3), 200);
        }
        TinMouse z = new TinMouse();
        CHECKS.range("toy(what, 1)", what -> z.toy(what, 1), 0, 2, BAD);
    }

    // told: 0 WIDE .. 8 its direction. BAD.

    private static void toldNumbers() {
        TinMouse x = Checks.told("table 9 10;toy 2 4 6 77;bell 8 1;start 3 5 7;");
        CHECKS.range("told(what)", x::told, 0, 8, BAD);
        due("told(8)", x.told(8), 7);
        due("told(6) of none", new TinMouse().told(6), NONE);
    }

    // START: a cell, a direction (0 .. 7 ..; at first cell 0 0, direction 2)

    private static void startDirections() {
        due("START's cell at first", new TinMouse().told(7), 0);
        due("START's direction at first", new TinMouse().told(8), 2);
        for (int d = 0; d <= 7; d++) {
            due("direction " + d, Checks.told("start 1 1 " + d + ";").told(8), d);
            due("direction NOW " + d, Checks.told("start 1 1 " + d + ";").now(1), d);
        }
        for (int d : new int[] {8, 9, 10, 80, 264, 999}) {
            fault("start 1 1 ", d + ";");
        }
    }

    // They are a text (300 bytes at most)

    private static void textTakesThreeHundred() {
        for (int n = 1; n <= 8; n++) {
            TinMouse x = new TinMouse();
            Checks.typeText(x, " ".repeat(300 - n));
            due(n + " bytes to the brim", x.type(0x2020202020202020L, n), 300);
            due("one more", x.type(32, 1), FULL);
            TinMouse y = new TinMouse();
            Checks.typeText(y, " ".repeat(301 - n));
            due(n + " bytes are one too many", y.type(0x2020202020202020L, n), FULL);
            due("none of them came", y.count(5), 301 - n);
            due("all are read", y.table(), 0);
        }
        TinMouse x = new TinMouse();
        Checks.typeText(x, " ".repeat(300));
        due("type of none when full: BAD is ahead of FULL", x.type(32, 0), BAD);
        due("type of nine when full: BAD is ahead of FULL", x.type(32, 9), BAD);
        due("300 blanks", x.table(), 0);
        due("and empty again", x.type(32, 8), 8);
        reads("bell 0 0" + " ".repeat(291) + ";", 1);
        reads(" ".repeat(291) + "bell 0 0;", 1);
        fault("bell 0 0;" + " ".repeat(290), ";");
        fault("bell 0 0" + " ".repeat(292), "");
    }

    // The lowest n (1 .. 8) bytes of v

    private static void typeTakesOneToEight() {
        for (int n = 1; n <= 8; n++) {
            TinMouse x = new TinMouse();
            due("type(v, " + n + ")", x.type(-1, n), n);
            due("count(5)", x.count(5), n);
        }
        CHECKS.range("type(32, n)", n -> new TinMouse().type(32, n), 1, 8, BAD);
        due("type(MIN, 8)", new TinMouse().type(Long.MIN_VALUE, 8), 8);
        due("type(MAX, 8)", new TinMouse().type(Long.MAX_VALUE, 8), 8);
    }

    // .. the highest of them first, come to THE TEXT

    private static void highestByteFirst() {
        String text = "bell 3 4";
        for (int n = 1; n <= 8; n++) {
            TinMouse x = new TinMouse();
            Checks.typeText(x, text.substring(0, 8 - n));
            // the bytes above the lowest n are none of the text's
            long above = n == 8 ? 0 : 0x7E7E7E7E7E7E7E7EL << (8 * n);
            x.type(above | Checks.packed(text.substring(8 - n)), n);
            x.type(0xFFFFFF3BL, 1);
            due("table() by a type of " + n, x.table(), 1);
            due("told(6) by a type of " + n, x.told(6), 35);
        }
    }

    // clear: THE TEXT is empty: how many bytes it had.

    private static void clearEmpties() {
        TinMouse x = new TinMouse();
        due("clear() of none", x.clear(), 0);
        x.type(0x74, 1);
        due("clear() of one", x.clear(), 1);
        Checks.typeText(x, "q".repeat(300));
        due("clear() of all", x.clear(), 300);
        due("clear() of none again", x.clear(), 0);
        Checks.typeText(x, "bell 0 1;");
        due("a text behind clear()", x.table(), 1);
    }

    // blanks (32): no other byte

    private static void blanksOnly() {
        for (int b = 0; b <= 255; b++) {
            char c = (char) b;
            if (c == ' ') {
                reads("bell 1" + c + "1;", 1);
            } else if (c < '0' || c > '9') {
                fault("bell 1", c + "1;");
            }
            if (c == ' ') {
                reads("" + c, 0);
            } else {
                fault("", "" + c);
                fault("bell 1 1;", "" + c);
            }
        }
    }

    // blanks, any number, ahead of, between, behind TOKENS

    private static void blanksAnyNumber() {
        String[] tokens = {"table", "5", "4", ";", "start", "1", "1", "3", ";"};
        for (int many = 1; many <= 20; many++) {
            reads(" ".repeat(many) + String.join(" ".repeat(many), tokens) + " ".repeat(many), 2);
        }
        reads("table 5 4;start 1 1 3;", 2);
        reads(" table 5 4;start 1 1 3;", 2);
        reads("table 5 4;start 1 1 3; ", 2);
        reads("table 5 4 ;start 1 1 3;", 2);
        reads("table 5 4; start 1 1 3;", 2);
    }

    // (needed only between two rows of letters, two NUMBERS)

    private static void blanksNeeded() {
        reads("table5 4;hole1 1 1 1;book2 2 1 1;bell3 3;toy1 2 3 4;start0 0 0;", 6);
        due("the number behind the word", Checks.told("table5 4;").told(0), 5);
        fault("table 16 16;bell 11", ";");
        fault("toy ", "111 1;");
        fault("bell1", "bell1 1;");
        fault("", "tablehole 3 3;");
        fault("", "bellbell 1 1;");
        fault("bell 1", "x1;");
        fault("start 1 1", "toy;");
    }

    // ITEMS (none, too)

    private static void itemsNone() {
        reads("", 0);
        reads(" ", 0);
        reads(" ".repeat(300), 0);
        TinMouse x = new TinMouse();
        due("table() of a new one", x.table(), 0);
        due("and again", x.table(), 0);
    }

    // ITEMS, each ended by ;

    private static void itemsEnded() {
        String[] items = {"table 3 3", "hole 1 1 1 1", "book 1 1 1 1", "bell 1 1", "toy 1 1 1 1", "start 1 1 1"};
        for (String item : items) {
            reads(item + ";", 1);
            fault(item, "");
            fault(item + " ", "");
            fault(item, "bell 0 0;");
            fault(item + " ", "1;");
            fault(item + ";", ";");
            fault(item + " ; ", ";");
            String few = item.substring(0, item.lastIndexOf(' '));
            fault(few, ";");
            fault(few, "");
        }
        fault("", ";");
        fault(" ", ";bell 0 0;");
    }

    private static void itemsMany() {
        reads("hole1 1 1 1;".repeat(25), 25);
        reads("book1 1 1 1;".repeat(25), 25);
        due("of 25 items the last counts", Checks.told("hole1 1 1 1;".repeat(24) + "hole2 1 1 1;").cell(2, 1), 1);
        for (int i = 1; i <= 24; i++) {
            reads("hole1 1 1 1;".repeat(i), i);
        }
    }

    // table W H (the first of all, if it is told); table behind another ITEM

    private static void tableFirstOfAll() {
        String[] items = {"hole 1 1 1 1;", "book 1 1 1 1;", "bell 1 1;", "toy 1 1 1 1;", "start 1 1 1;"};
        for (String item : items) {
            reads("table 3 3;" + item, 2);
            fault(item, "table 3 3;");
            fault(item + " ", "table");
            fault("table 3 3;" + item, "table 3 3;");
        }
        fault("table 3 3;", "table 3 3;");
        reads("  table 3 3;", 1);
    }

    // (bell, toy, start once each at most)

    private static void onceEach() {
        String[] once = {"bell 1 1;", "toy 1 1 1 1;", "start 1 1 1;"};
        for (String item : once) {
            for (String other : once) {
                if (item.equals(other)) {
                    fault(item, other);
                    fault(item + "hole 0 0 1 1; ", other);
                    fault(item, other.substring(0, other.indexOf(' ')));
                } else {
                    reads(item + other, 2);
                    fault(item + other, item);
                }
            }
        }
        reads("hole 1 1 1 1;book 1 1 1 1;hole 1 1 1 1;book 1 1 1 1;", 4);
        TinMouse x = Checks.told("bell 1 1;toy 1 1 1 1;start 1 1 1;");
        Checks.typeText(x, "bell 2 2;toy 2 2 2 2;start 2 2 2;");
        due("in another text each may be told", x.table(), 3);
        TinMouse y = new TinMouse();
        Checks.typeText(y, "bell 1 1;bell 1 1;");
        due("told again", y.table(), -19);
        y.clear();
        Checks.typeText(y, "bell 1 1;");
        due("behind a fault it may be told", y.table(), 1);
    }

    // hole X Y A B, book X Y A B (A cells wide, B high from X Y on, on the table)

    private static void onTheTable() {
        for (String word : new String[] {"hole", "book"}) {
            for (int x = 0; x <= 5; x++) {
                for (int y = 0; y <= 4; y++) {
                    for (int a = 0; a <= 6; a++) {
                        for (int b = 0; b <= 5; b++) {
                            oneOnTheTable(word, x, y, a, b);
                        }
                    }
                }
            }
        }
        reads("table 16 16;hole 0 0 16 16;", 2);
        fault("table 16 16;hole 0 0 ", "17 16;");
        fault("table 16 16;hole 0 0 16 ", "17;");
        reads("table 16 16;book 15 15 1 1;", 2);
        fault("table 16 16;book 15 15 ", "2 1;");
        fault("table 16 16;book 15 15 1 ", "2;");
        fault("table 16 16;book 15 15 ", "999 1;");
    }

    private static void oneOnTheTable(String word, int x, int y, int a, int b) {
        String ahead = "table 5 4;" + word + " ";
        String text = ahead + x + " " + y + " " + a + " " + b + ";";
        int place = x > 4 ? 0 : y > 3 ? 2 : a < 1 || x + a > 5 ? 4 : b < 1 || y + b > 4 ? 6 : -1;
        if (place >= 0) {
            due("table() of \"" + text + "\"", Checks.tableOf(text), -10 - ahead.length() - place);
            return;
        }
        TinMouse mouse = Checks.told(text);
        due("how many by \"" + text + "\"", mouse.count(word.equals("hole") ? 1 : 2), a * b);
        int corners = mouse.cell(x, y) + mouse.cell(x + a - 1, y + b - 1);
        due("the corners of \"" + text + "\"", corners, word.equals("hole") ? 2 : 4);
    }

    // bell X Y; start X Y D: a NUMBER beyond what it may be

    private static void cellsOfItems() {
        for (int x = 0; x <= 8; x++) {
            for (int y = 0; y <= 8; y++) {
                for (String item : new String[] {"bell ", "start ", "hole ", "book "}) {
                    String ahead = "table 6 7;" + item;
                    String behind = item.equals("bell ") ? ";" : item.equals("start ") ? " 0;" : " 1 1;";
                    int want = x > 5 ? -10 - ahead.length() : y > 6 ? -12 - ahead.length() : 2;
                    due("table() of " + ahead + x + " " + y, Checks.tableOf(ahead + x + " " + y + behind), want);
                }
            }
        }
        fault("bell ", "999 0;");
        fault("bell 0 ", "999;");
    }

    // TOKENS are words of letters a .. z (table, hole, book, bell, toy, start) .. a word that is none of these

    private static void words() {
        String[] words = {"table", "hole", "book", "bell", "toy", "start"};
        for (String word : words) {
            String behind = word.equals("toy") ? " 1 1 1 1;" : word.equals("start") ? " 1 1 1;"
                : word.equals("bell") || word.equals("table") ? " 3 3;" : " 1 1 1 1;";
            reads(word + behind, 1);
            for (int i = 0; i < word.length(); i++) {
                fault("", word.substring(0, i) + word.substring(i + 1) + behind);
                fault("", word.substring(0, i) + (char) (word.charAt(i) ^ 1) + word.substring(i + 1) + behind);
                fault("", word.substring(0, i) + word.charAt(i) + word.substring(i) + behind);
            }
            for (char c = 'a'; c <= 'z'; c++) {
                fault("", word + c + behind);
                fault("", c + word + behind);
            }
            fault("", Character.toUpperCase(word.charAt(0)) + word.substring(1) + behind);
            fault("bell 1 1;  ", word.substring(0, word.length() - 1) + behind);
            fault("bell ", word + " 1;");
            fault("bell 1 1 ", word + ";");
        }
        for (char c = 'a'; c <= 'z'; c++) {
            fault(" ", c + " 1 1;");
        }
        fault("", "x".repeat(300));
    }

    // .. of a byte that begins none

    private static void bytesThatBeginNone() {
        fault("table", "`3 3;");
        fault("table", "{3 3;");
        fault("table 3", "/3;");
        fault("table 3 3", ":");
        fault("table 3 3", "<");
        fault("table", "@ 3 3;");
        fault("table 3 3;", "#bell 1 1;");
        fault("table 3 3;", "\u00e9");
        fault("toy 1 1 1 1", ",");
        fault("toy 1 1 1 1", ".5;");
        fault("toy 1 1 1 ", "-1;");
        fault("toy 1 1 1 ", "+1;");
    }

    // .. a NUMBER above 999

    private static void numbersAbove999() {
        due("SPRING 999", Checks.told("toy 1 1 1 999;").told(5), 999);
        String[] above = {"1000", "1001", "9990", "9999", "10000", "65536", "4294967296", "4294967297",
            "18446744073709551616", "18446744073709551617", "9".repeat(280)};
        for (String number : above) {
            fault("toy 1 1 1 ", number + ";");
            fault("toy ", number + " 1 1 1;");
            fault("bell ", number + " 0;");
            fault("bell 1 1;", number);
            fault("bell 1 1 ", number);
            fault("", number);
        }
        for (int v = 0; v <= 999; v++) {
            due("SPRING " + v, Checks.told("toy 1 1 1 " + v + ";").told(5), v);
        }
    }

    // .. or with a 0 ahead of others

    private static void zeroAhead() {
        due("0 alone", Checks.told("bell 0 0;").told(6), 0);
        due("10", Checks.told("toy 1 1 1 10;").told(5), 10);
        due("100", Checks.told("toy 1 1 1 100;").told(5), 100);
        due("900", Checks.told("toy 1 1 1 900;").told(5), 900);
        due("0 by ;", Checks.told("toy 1 1 0 0;").told(5), 0);
        for (String number : new String[] {"00", "01", "000", "007", "0999", "010", "01000"}) {
            fault("toy 1 1 1 ", number + ";");
            fault("bell ", number + " 0;");
            fault("bell 0 ", number + ";");
            fault("toy ", number + " 1 1 1;");
            fault("bell 1 1;", number);
        }
    }

    // the text's length, if it ends too early

    private static void endsTooEarly() {
        String text = "table 5 4 ; hole 1 2 3 1;book 0 0 1 1;bell 4 3;toy 2 3 4 56 ;start 1 2 3;";
        int items = 0;
        for (int n = 0; n <= text.length(); n++) {
            String part = text.substring(0, n);
            items += n > 0 && text.charAt(n - 1) == ';' ? 1 : 0;
            String open = part.substring(part.lastIndexOf(';') + 1);
            String word = open.trim();
            boolean whole = " hole book bell toy start table ".contains(" " + word.split(" ")[0] + " ");
            if (word.isEmpty()) {
                reads(part, items);
            } else if (whole) {
                fault(part, "");
            } else {
                fault(part.substring(0, n - word.length()), word);
            }
        }
        fault("bell 1 1   ", "");
        fault("bell 1 1;  start   ", "");
    }

    /** Bytes that an earlier, longer text had are none of a shorter one's. */
    private static void endsWhereItEnds() {
        String[] texts = {"bell 1 1;", "bell 1 1", "bell 1", "bell ", "bell", "be", "toy 1 1 1 1", "table 3 3;  ", ""};
        for (String text : texts) {
            for (String tail : new String[] {"1", "l", " ", ";", "7;", "ll 1 1;", " 1;"}) {
                TinMouse x = new TinMouse();
                Checks.typeText(x, text + tail);
                due("clear()", x.clear(), text.length() + tail.length());
                Checks.typeText(x, text);
                due("\"" + text + "\" behind one that went on by \"" + tail + "\"", x.table(), Checks.tableOf(text));
            }
        }
        TinMouse x = new TinMouse();
        Checks.typeText(x, "bell 1 1;bell 1 1;");
        x.clear();
        Checks.typeText(x, "bell 1 1;");
        due("one item behind two", x.table(), 1);
        Checks.typeText(x, "bell 2 ");
        due("too early behind one", x.table(), -10 - 7);
    }

    // the place of the first byte of the first TOKEN that can't stand there

    private static void firstFaultOfSeveral() {
        fault("table ", "2 2;bell 9 9;");
        fault("bell ", "8 8;");
        fault("bell 7 7;", "bell 8 8;");
        fault("hole 7 7 ", "2 2;");
        fault("hole ", "8 8 9 9;");
        fault("toy ", "0 0 10 1000;");
        fault("toy 1 ", "0 10 1000;");
        fault("toy 1 1 ", "10 1000;");
        fault("start ", "8 8 8;");
        fault("start 0 ", "8 8;");
        fault("", "tabel 2 2;;");
        fault("toy 1 ", "00 #;");
        fault("toy 1 1 1 1;", "toy 0 0 0");
        fault("bell 1 ", "bell 2;#");
        fault("bell 1 1 ", "bell 2 2;");
        fault("table 3 3;hole 1 1 ", "3 3;table 3 3;");
    }

    private static void faultPlaces() {
        fault("table 3 3;  bell   2  2  ;   start   2   1  ", "8;");
        fault("   table   ", "02 3;");
        for (int blanks = 0; blanks <= 299; blanks++) {
            fault(" ".repeat(blanks), "?");
        }
    }

    // -10 less FAULT: nothing changes (THE TEXT stays, too)

    private static void faultChangesNothing() {
        String[] faulty = {"table 4 4;hole 0 0 2 2;book 2 2 1 1;bell 1 1;toy 2 2 2 2;start 3 3 3;?", "bell 1 1;bell",
            "start 3 3 3;toy 2 2 2 1000;", "hole 0 0 1 1", "table 4 4;x"};
        for (String text : faulty) {
            TinMouse x = moved();
            TinMouse y = moved();
            Checks.typeText(x, text);
            Checks.typeText(y, text);
            due("a fault", x.table() < 0 ? 1 : 0, 1);
            Set<String> unlike = Whole.unlike(x, y);
            due("unlike by the fault of \"" + text + "\": " + unlike, unlike.size(), 0);
        }
    }

    private static TinMouse moved() {
        TinMouse x = Checks.told("table 7 6;hole 3 3 1 1;book 5 1 1 2;bell 2 0;toy 1 3 2 300;start 1 0 2;");
        x.go(30);
        x.keep(0);
        x.go(7);
        x.keep(1);
        x.track(3);
        x.track(4);
        x.key(3, 50);
        x.key(4, 70);
        x.lot(-77);
        x.rate(3);
        x.toy(1, 5);
        return x;
    }

    // THE TEXT tells all .. (A TABLE read anew: NOW is as at first, no TRACKS, IMAGES are gone; KEYS, THE LOT stay ..)

    private static void tableTellsAll() {
        TinMouse x = moved();
        x.covers(9);
        long trace = x.trace();
        due("table() of an empty text", x.table(), 0);
        int[] told = {8, 8, 1, 3, 0, 200, NONE, 0, 2};
        for (int what = 0; what < told.length; what++) {
            due("read anew: told(" + what + ")", x.told(what), told[what]);
        }
        int[] now = {0, 2, 0, 200, 0, 0, 0, 0, 0, NONE};
        for (int what = 0; what < now.length; what++) {
            due("read anew: now(" + what + ")", x.now(what), now[what]);
        }
        int[] counts = {64, 0, 0, 0, 2, 0};
        for (int what = 0; what < counts.length; what++) {
            due("read anew: count(" + what + ")", x.count(what), counts[what]);
        }
        due("IMAGE 0 is gone", x.back(0), -2);
        due("IMAGE 1 is gone", x.back(1), -2);
        due("THE LOT stays", x.lot(5), -77);
        due("KEYS stay: the slope", x.law(0, 0), 20);
        due("THE TRACE goes on", x.trace(), trace);
        due("the track behind it is the first", x.track(63), 1);
        due("an IMAGE may be kept again", x.keep(1), 0);
        due("and is there", x.back(1), 0);
        due("ways are of this table", x.covers(100), 40);
    }

    /** What earlier texts told, whole or faulty, is nowhere in a later one. */
    private static void tableForgetsEarlierTexts() {
        String all = "table 9 9;hole 0 0 9 1;book 0 1 9 1;hole 4 4 1 1;bell 8 8;toy 3 7 9 999;start 7 7 7;";
        TinMouse x = new TinMouse();
        for (int times = 1; times <= 4; times++) {
            Checks.typeText(x, all);
            due("all told", x.table(), 7);
            if (times % 2 == 0) {
                Checks.typeText(x, all + "?");
                due("all told, then a fault", x.table(), -10 - all.length());
                x.clear();
            }
            due("nothing told", x.table(), 0);
            due("nothing told again", x.table(), 0);
            Set<String> unlike = Whole.unlike(x, new TinMouse());
            due("unlike a new one: " + unlike, unlike.size(), 0);
            due("asked for its ways", x.round(1), 64);
        }
    }

    // THE TEXT .. is empty then: how many ITEMS

    private static void tableEmptiesText() {
        TinMouse x = new TinMouse();
        Checks.typeText(x, "table 4 5;bell 1 1;");
        due("two items", x.table(), 2);
        due("count(5)", x.count(5), 0);
        due("clear() of none", x.clear(), 0);
        due("an empty text is read", x.table(), 0);
        due("the BELL is none", x.told(6), NONE);
        Checks.typeText(x, " ".repeat(300));
        due("300 blanks", x.table(), 0);
        due("there is room again", x.type(32, 8), 8);
    }
}
