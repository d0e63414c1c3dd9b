/** A tin mouse that turns at the edge of a table; ../shared/DOC.md tells what each call answers. */
public final class TinMouse {
    public static final int BAD = -1, STATE = -2, FULL = -3, NONE = -9;
    public static final int NO = -1000000;

    private static final int MOST_BYTES = 300, MOST_CELLS = 256, MOST_TRACKS = 16, MOST_KEYS = 20;
    /** A toy bends at 9 moves at the latest, so BENT is 0 .. 8. */
    private static final int BENTS = 9;
    private static final int STANDS = MOST_CELLS * 8 * BENTS;
    private static final int FALLEN = -1;
    private static final int WOOD = 0, HOLE = 1, BOOK = 2;
    private static final int GOES = 0, ENDED = 1, OVER = 2;
    private static final int SLANTING = 1, SQUARE = 2, CORNERED = 3, SAWING = 4, STRUCK = 5;
    private static final int MOST_STEPS = 9999, MOST_MEET = 4096, FIRST_FAULT = -10;
    private static final int[] RIGHT = {0, 1, 1, 1, 0, -1, -1, -1};
    private static final int[] DOWN = {-1, -1, 0, 1, 1, 1, 0, -1};

    private final Text text = new Text();
    private final Reader reader = new Reader(text);
    private Table table = new Table();
    /** A text is read into the spare one, so that a faulty text changes nothing. */
    private Table spare = new Table();
    private final Now now = new Now();
    private final Image firstImage = new Image();
    private final Image secondImage = new Image();
    private final Ways ways = new Ways();
    private final Marks seenStands = new Marks(STANDS);
    private final Marks seenCells = new Marks(MOST_CELLS);
    private final int[] path = new int[STANDS];
    private final Lap lap = new Lap(seenCells);
    private final Starts all = new Starts(seenStands, path, lap);
    private final int[] tracks = new int[MOST_TRACKS];
    private int trackCount;
    private final Keys keys = new Keys();
    private int lot = 1;
    private long trace;

    public TinMouse() {
        now.begin(table);
    }

    // ---- the table

    public int type(long v, int n) {
        if (n < 1 || n > 8) {
            return BAD;
        }
        if (text.length + n > MOST_BYTES) {
            return FULL;
        }
        for (int i = n - 1; i >= 0; i--) {
            text.add((int) (v >>> (8 * i)) & 255);
        }
        return text.length;
    }

    public int clear() {
        int had = text.length;
        text.length = 0;
        return had;
    }

    public int table() {
        int items = reader.readInto(spare);
        if (items < 0) {
            return items;
        }
        Table old = table;
        table = spare;
        spare = old;
        text.length = 0;
        trackCount = 0;
        firstImage.kept = false;
        secondImage.kept = false;
        ways.forget();
        now.begin(table);
        return items;
    }

    public int cell(int x, int y) {
        return table.has(x, y) ? table.kindOf(table.numberOf(x, y)) : BAD;
    }

    public int told(int what) {
        switch (what) {
            case 0: return table.wide;
            case 1: return table.high;
            case 2: return table.nose;
            case 3: return table.turn;
            case 4: return table.bend;
            case 5: return table.spring;
            case 6: return table.bell;
            case 7: return table.startCell;
            case 8: return table.startDirection;
            default: return BAD;
        }
    }

    public int toy(int what, int v) {
        int was = BAD;
        if (what == 0 && v >= 1 && v <= 3) {
            was = table.nose;
            table.nose = v;
        } else if (what == 1 && v >= 1 && v <= 7) {
            was = table.turn;
            table.turn = v;
        } else if (what == 2 && v >= 0 && v <= 9) {
            was = table.bend;
            table.bend = v;
        }
        return was;
    }

    // ---- steps

    public int go(int n) {
        if (n < 1 || n > 999) {
            return BAD;
        }
        if (now.state(table) != GOES) {
            return STATE;
        }
        int done = 0;
        while (done < n && now.state(table) == GOES) {
            now.step(table);
            done++;
        }
        return done;
    }

    public int wind(int v) {
        if (v < 0 || v > 999) {
            return BAD;
        }
        if (isOver()) {
            return STATE;
        }
        int was = now.spring;
        now.spring = v;
        return was;
    }

    public int put(int x, int y, int d) {
        if (!isStart(x, y, d)) {
            return BAD;
        }
        now.stand(table.numberOf(x, y), d);
        return 1;
    }

    private boolean isStart(int x, int y, int d) {
        return d >= 0 && d <= 7 && cell(x, y) == WOOD;
    }

    private boolean isOver() {
        return now.state(table) == OVER;
    }

    public int anew() {
        int steps = now.steps;
        now.begin(table);
        return steps;
    }

    public int now(int what) {
        switch (what) {
            case 0: return now.cell;
            case 1: return now.direction;
            case 2: return now.bent;
            case 3: return now.spring;
            case 4: return now.state(table);
            case 5: return now.steps;
            case 6: return now.moves;
            case 7: return now.turns;
            case 8: return now.rings;
            case 9: return now.latest;
            default: return BAD;
        }
    }

    // ---- ways that come again

    /** The ways of the toy as it is. */
    private void layWays() {
        ways.lay(table, table.nose);
        ways.bind(table.turn, table.bend);
    }

    private int standNow() {
        return standOf(now.cell, now.direction, now.bent);
    }

    public int round(int what) {
        if (what < 0 || what > 3) {
            return BAD;
        }
        if (isOver()) {
            return STATE;
        }
        layWays();
        int tail = findRound(standNow());
        switch (what) {
            case 0: return tail;
            case 1: return lap.length;
            case 2: return lap.moves;
            default: return lap.cells;
        }
    }

    /** Answers TAIL; the lap is the ROUND behind it. */
    private int findRound(int from) {
        seenStands.renew(STANDS + 1);
        lap.empty();
        int stand = from;
        int steps = 0;
        while (steps <= STANDS && stand != FALLEN && seenStands.get(stand) == 0) {
            steps++;
            seenStands.set(stand, steps);
            stand = ways.after(stand);
        }
        if (stand == FALLEN) {
            return steps;
        }
        lap.run(ways, stand);
        return seenStands.get(stand) - 1;
    }

    public int starts(int what) {
        if (what < 0 || what > 4) {
            return BAD;
        }
        layWays();
        all.survey(table, ways);
        switch (what) {
            case 0: return all.starts;
            case 1: return all.falls;
            case 2: return all.trapped;
            case 3: return all.rounds;
            default: return all.longest;
        }
    }

    public int rings(int n) {
        if (n < 0 || n > 999) {
            return BAD;
        }
        layWays();
        return all.ringing(table, ways, n);
    }

    public int common() {
        layWays();
        all.survey(table, ways);
        return all.leastShared(table);
    }

    public int safe() {
        int bits = 0;
        ways.bind(table.turn, table.bend);
        for (int nose = 1; nose <= 3; nose++) {
            ways.lay(table, nose);
            all.survey(table, ways);
            if (all.falls == 0) {
                bits |= 1 << (nose - 1);
            }
        }
        return bits;
    }

    public int covers(int n) {
        if (n < 0 || n > MOST_STEPS) {
            return BAD;
        }
        if (isOver()) {
            return STATE;
        }
        layWays();
        return covered(n);
    }

    private int covered(int n) {
        seenCells.renew(1);
        int cells = 0;
        int stand = standNow();
        for (int steps = 0; steps <= n && stand != FALLEN; steps++) {
            cells += seenCells.add(cellOf(stand));
            stand = ways.after(stand);
        }
        return cells;
    }

    public int everywhere() {
        if (isOver()) {
            return STATE;
        }
        layWays();
        seenCells.renew(1);
        int left = table.countOf(WOOD);
        int stand = standNow();
        for (int steps = 0; steps <= MOST_STEPS && stand != FALLEN; steps++) {
            int cell = cellOf(stand);
            if (table.kindOf(cell) == WOOD) {
                left -= seenCells.add(cell);
            }
            if (left <= 0) {
                return steps;
            }
            stand = ways.after(stand);
        }
        return NONE;
    }

    public int best(int n) {
        if (n < 0 || n > 999) {
            return BAD;
        }
        if (isOver()) {
            return STATE;
        }
        ways.lay(table, table.nose);
        int best = 0;
        int most = -1;
        for (int turn = 1; turn <= 7; turn++) {
            ways.bind(turn, table.bend);
            int cells = covered(n);
            if (cells > most) {
                most = cells;
                best = turn;
            }
        }
        return best;
    }

    // ---- tracks, others, chance

    public int track(int cell) {
        if (cell < 0 || cell >= table.size()) {
            return BAD;
        }
        if (trackCount >= MOST_TRACKS) {
            return FULL;
        }
        set(tracks, trackCount, cell);
        trackCount++;
        return trackCount;
    }

    public int wipe() {
        int had = trackCount;
        trackCount = 0;
        return had;
    }

    public int fits(int what) {
        if (what < 0 || what > 1) {
            return BAD;
        }
        ways.lay(table, table.nose);
        int many = 0;
        int first = NONE;
        for (int toy = 0; toy < 560; toy++) {
            int turn = toy / 80 + 1;
            int bend = toy / 8 % 10;
            int direction = toy % 8;
            ways.bind(turn, bend);
            if (fitsTracks(direction)) {
                many++;
                if (first == NONE) {
                    first = 100 * turn + 10 * bend + direction;
                }
            }
        }
        return what == 0 ? many : first;
    }

    private boolean fitsTracks(int direction) {
        if (trackCount < 2) {
            return true;
        }
        int start = at(tracks, 0);
        int stand = table.isWood(start) ? standOf(start, direction, 0) : FALLEN;
        for (int i = 1; i < trackCount && stand != FALLEN; i++) {
            stand = ways.after(stand);
            if (cellOf(stand) != at(tracks, i)) {
                return false;
            }
        }
        return stand != FALLEN;
    }

    public int meet(int x, int y, int d) {
        if (!isStart(x, y, d)) {
            return BAD;
        }
        if (isOver()) {
            return STATE;
        }
        layWays();
        int mine = standNow();
        int other = standOf(table.numberOf(x, y), d, 0);
        for (int steps = 0; steps <= MOST_MEET && mine != FALLEN && other != FALLEN; steps++) {
            if (cellOf(mine) == cellOf(other)) {
                return steps;
            }
            mine = ways.after(mine);
            other = ways.after(other);
        }
        return NONE;
    }

    public int drawn(int n) {
        if (n < 0 || n > 999) {
            return BAD;
        }
        if (isOver()) {
            return STATE;
        }
        layWays();
        seenCells.renew(1);
        int stand = standNow();
        int cells = seenCells.add(cellOf(stand));
        for (int steps = 0; steps < n && stand != FALLEN; steps++) {
            if (ways.turnsAt(stand)) {
                ways.bind(1 + draw(), table.bend);
            }
            stand = ways.after(stand);
            if (stand != FALLEN) {
                cells += seenCells.add(cellOf(stand));
            }
        }
        return cells;
    }

    private int draw() {
        lot = lot * 1103515245 + 12345;
        return (lot >>> 16) % 7;
    }

    public int lot(int v) {
        int was = lot;
        lot = v;
        return was;
    }

    // ---- keys, a round table

    public int key(int turns, int steps) {
        if (turns < 1 || turns > 9 || steps < 0 || steps > 999) {
            return BAD;
        }
        return keys.add(turns, steps) ? keys.many : FULL;
    }

    public int law(int t, int what) {
        if (t < 0 || t > 99 || what < 0 || what > 3) {
            return NO;
        }
        return keys.fitLine(t, what >= 2) ? keys.leastTerm(what % 2) : NO;
    }

    public int circle(int p, int q) {
        if (q < 1 || q > 360 || p < 0 || p >= q) {
            return BAD;
        }
        int shared = (int) divisorOf(2 * p, q);
        return shared > 0 ? q / shared : BAD;
    }

    // ---- kinds, images

    public int rate(int kind) {
        if (now.latest == NONE) {
            return NO;
        }
        switch (kind) {
            case 0: return rateTurn();
            case SLANTING: return rateSlanting();
            case SQUARE: return rateSquare();
            case CORNERED: return rateCornered();
            case SAWING: return rateSawing();
            case STRUCK: return rateStruck();
            default: return NO;
        }
    }

    private int rateTurn() {
        trace += 1;
        return now.turns;
    }

    private int rateSlanting() {
        trace += 10;
        return rateTurn() + now.direction;
    }

    private int rateSquare() {
        trace += 100;
        return rateTurn() + table.nose;
    }

    private int rateCornered() {
        trace += 1000;
        return 2 * rateSlanting();
    }

    private int rateSawing() {
        trace += 10000;
        return rateSquare() + now.row;
    }

    private int rateStruck() {
        trace += 100000;
        return rateTurn() - now.moves;
    }

    private Image imageOf(int image) {
        return image == 0 ? firstImage : secondImage;
    }

    public int keep(int image) {
        if (image < 0 || image > 1) {
            return BAD;
        }
        Image kept = imageOf(image);
        kept.now.copy(now);
        kept.lot = lot;
        kept.kept = true;
        return now.steps;
    }

    public int back(int image) {
        if (image < 0 || image > 1) {
            return BAD;
        }
        Image kept = imageOf(image);
        if (!kept.kept) {
            return STATE;
        }
        now.copy(kept.now);
        lot = kept.lot;
        return now.steps;
    }

    public int count(int what) {
        switch (what) {
            case 0: return table.countOf(WOOD);
            case 1: return table.countOf(HOLE);
            case 2: return table.countOf(BOOK);
            case 3: return trackCount;
            case 4: return keys.many;
            case 5: return text.length;
            default: return BAD;
        }
    }

    public long trace() {
        return trace;
    }

    // ---- what all of it uses

    private static int at(int[] row, int i) {
        return i >= 0 && i < row.length ? row[i] : 0;
    }

    private static void set(int[] row, int i, int v) {
        if (i >= 0 && i < row.length) {
            row[i] = v;
        }
    }

    private static int standOf(int cell, int direction, int bent) {
        return (cell * 8 + direction) * BENTS + bent;
    }

    private static int cellOf(int stand) {
        return stand >= 0 ? stand / (8 * BENTS) : NONE;
    }

    /** The greatest common divisor of two numbers from 0 on; 1, if both are 0. */
    private static long divisorOf(long a, long b) {
        long high = a;
        long low = b;
        for (int i = 0; i < 100 && low > 0; i++) {
            long left = high % low;
            high = low;
            low = left;
        }
        return high > 0 ? high : 1;
    }

    /** Cells, books, bell, toy and start, as a text tells them. */
    private static final class Table {
        final int[] kinds = new int[MOST_CELLS];
        int wide, high;
        int bell, startCell, startDirection;
        int nose, turn, bend, spring;

        Table() {
            reset();
        }

        void reset() {
            wide = 8;
            high = 8;
            for (int i = 0; i < kinds.length; i++) {
                kinds[i] = WOOD;
            }
            bell = NONE;
            startCell = 0;
            startDirection = 2;
            nose = 1;
            turn = 3;
            bend = 0;
            spring = 200;
        }

        int size() {
            return wide * high;
        }

        boolean has(int x, int y) {
            return x >= 0 && x < wide && y >= 0 && y < high;
        }

        int numberOf(int x, int y) {
            return wide * y + x;
        }

        /** WOOD, HOLE or BOOK; NONE beyond the table. */
        int kindOf(int cell) {
            return cell >= 0 && cell < wide * high && cell < kinds.length ? kinds[cell] : NONE;
        }

        boolean isWood(int cell) {
            int kind = kindOf(cell);
            return kind == WOOD || kind == BOOK;
        }

        boolean hasBook(int cell) {
            return kindOf(cell) == BOOK;
        }

        int countOf(int kind) {
            int many = 0;
            for (int cell = 0; cell < size(); cell++) {
                if (kindOf(cell) == kind) {
                    many++;
                }
            }
            return many;
        }

        /** A book that lies on a hole is none, whichever of the two was told first. */
        void lay(int kind, int x, int y, int across, int down) {
            for (int row = y; row < y + down && row < high; row++) {
                for (int column = x; column < x + across && column < wide; column++) {
                    int cell = numberOf(column, row);
                    if (kind == HOLE || kindOf(cell) == WOOD) {
                        set(kinds, cell, kind);
                    }
                }
            }
        }

        /** The cell that is so far off in a direction; NONE beyond the table. */
        int off(int cell, int direction, int far) {
            if (cell < 0 || wide < 1) {
                return NONE;
            }
            int x = cell % wide + far * at(RIGHT, direction);
            int y = cell / wide + far * at(DOWN, direction);
            return has(x, y) ? numberOf(x, y) : NONE;
        }

        boolean turnsAt(int cell, int direction, int far) {
            return hasBook(off(cell, direction, 1)) || !isWood(off(cell, direction, far));
        }
    }

    /** The bytes of the text, and the token that is read just now. */
    private static final class Text {
        static final int END = 0, WORD = 1, NUMBER = 2, CLOSE = 3, WRONG = 4;
        static final int TABLE = 0, HOLES = 1, BOOKS = 2, BELL = 3, TOY = 4, START = 5, WORDS = 6;

        final int[] bytes = new int[MOST_BYTES];
        int length;
        int place;
        int first;
        int sort;
        int value;

        void add(int b) {
            if (length < bytes.length) {
                set(bytes, length, b);
                length++;
            }
        }

        void rewind() {
            place = 0;
            next();
        }

        /** Takes the next token: its first byte's place, its sort, and which word or number it is. */
        void next() {
            while (place < length && at(bytes, place) == ' ') {
                place++;
            }
            first = place;
            if (place >= length) {
                sort = END;
            } else if (isLetter(at(bytes, place))) {
                takeWord();
            } else if (isDigit(at(bytes, place))) {
                takeNumber();
            } else {
                sort = at(bytes, place) == ';' ? CLOSE : WRONG;
                place++;
            }
        }

        private void takeWord() {
            while (place < length && isLetter(at(bytes, place))) {
                place++;
            }
            sort = WRONG;
            for (int word = 0; word < WORDS; word++) {
                if (isWord(nameOf(word))) {
                    sort = WORD;
                    value = word;
                }
            }
        }

        private boolean isWord(String name) {
            boolean same = name.length() == place - first;
            for (int i = 0; same && i < name.length(); i++) {
                same = name.charAt(i) == at(bytes, first + i);
            }
            return same;
        }

        private void takeNumber() {
            value = 0;
            while (place < length && isDigit(at(bytes, place))) {
                value = Math.min(1000, value * 10 + at(bytes, place) - '0');
                place++;
            }
            boolean zeroAhead = at(bytes, first) == '0' && place - first > 1;
            sort = value > 999 || zeroAhead ? WRONG : NUMBER;
        }

        private static boolean isLetter(int b) {
            return b >= 'a' && b <= 'z';
        }

        private static boolean isDigit(int b) {
            return b >= '0' && b <= '9';
        }

        private static String nameOf(int word) {
            switch (word) {
                case TABLE: return "table";
                case HOLES: return "hole";
                case BOOKS: return "book";
                case BELL: return "bell";
                case TOY: return "toy";
                default: return "start";
            }
        }
    }

    /** Reads the items of a text into a table. */
    private static final class Reader {
        private final Text text;
        private final int[] numbers = new int[4];
        private int items;
        private int toldWords;

        Reader(Text text) {
            this.text = text;
        }

        /** How many items there are, or -10 less the place of the fault. */
        int readInto(Table table) {
            table.reset();
            items = 0;
            toldWords = 0;
            text.rewind();
            for (int i = 0; i <= MOST_BYTES && text.sort != Text.END; i++) {
                if (!readItem(table)) {
                    return FIRST_FAULT - text.first;
                }
                items++;
            }
            return items;
        }

        private boolean readItem(Table table) {
            if (text.sort != Text.WORD || !mayStand(text.value)) {
                return false;
            }
            int word = text.value;
            toldWords |= 1 << word;
            text.next();
            for (int i = 0; i < numbersOf(word); i++) {
                if (text.sort != Text.NUMBER || !isInside(table, word, i, text.value)) {
                    return false;
                }
                set(numbers, i, text.value);
                text.next();
            }
            if (text.sort != Text.CLOSE) {
                return false;
            }
            text.next();
            tell(table, word);
            return true;
        }

        private boolean mayStand(int word) {
            switch (word) {
                case Text.TABLE: return items == 0;
                case Text.HOLES:
                case Text.BOOKS: return true;
                default: return (toldWords >> word & 1) == 0;
            }
        }

        private static int numbersOf(int word) {
            switch (word) {
                case Text.TABLE:
                case Text.BELL: return 2;
                case Text.START: return 3;
                default: return 4;
            }
        }

        private boolean isInside(Table table, int word, int i, int v) {
            if (word == Text.TABLE) {
                return v >= 3 && v <= 16;
            }
            if (word == Text.TOY) {
                return v >= leastOfToy(i) && v <= mostOfToy(i);
            }
            switch (i) {
                case 0: return v < table.wide;
                case 1: return v < table.high;
                case 2: return word == Text.START ? v <= 7 : v >= 1 && at(numbers, 0) + v <= table.wide;
                default: return v >= 1 && at(numbers, 1) + v <= table.high;
            }
        }

        private static int leastOfToy(int i) {
            return i < 2 ? 1 : 0;
        }

        private static int mostOfToy(int i) {
            switch (i) {
                case 0: return 3;
                case 1: return 7;
                case 2: return 9;
                default: return 999;
            }
        }

        private void tell(Table table, int word) {
            int a = at(numbers, 0);
            int b = at(numbers, 1);
            int c = at(numbers, 2);
            int d = at(numbers, 3);
            switch (word) {
                case Text.TABLE:
                    table.wide = a;
                    table.high = b;
                    break;
                case Text.HOLES:
                    table.lay(HOLE, a, b, c, d);
                    break;
                case Text.BOOKS:
                    table.lay(BOOK, a, b, c, d);
                    break;
                case Text.BELL:
                    table.bell = table.numberOf(a, b);
                    break;
                case Text.TOY:
                    table.nose = a;
                    table.turn = b;
                    table.bend = c;
                    table.spring = d;
                    break;
                default:
                    table.startCell = table.numberOf(a, b);
                    table.startDirection = c;
            }
        }
    }

    /** Where the toy is, and what it did since it was set down. */
    private static final class Now {
        int cell, direction, bent, spring;
        int steps, moves, turns, rings;
        int latest, row;

        void begin(Table table) {
            stand(table.startCell, table.startDirection);
            spring = table.spring;
            steps = 0;
            moves = 0;
            turns = 0;
            rings = 0;
            latest = NONE;
        }

        void stand(int onCell, int inDirection) {
            cell = onCell;
            direction = inDirection;
            bent = 0;
            row = 0;
        }

        void copy(Now other) {
            stand(other.cell, other.direction);
            bent = other.bent;
            row = other.row;
            spring = other.spring;
            steps = other.steps;
            moves = other.moves;
            turns = other.turns;
            rings = other.rings;
            latest = other.latest;
        }

        int state(Table table) {
            if (!table.isWood(cell)) {
                return OVER;
            }
            return spring == 0 ? ENDED : GOES;
        }

        void step(Table table) {
            spring--;
            steps++;
            if (table.turnsAt(cell, direction, table.nose)) {
                turnRight(table);
            } else {
                moveOn(table);
            }
        }

        private void turnRight(Table table) {
            turns++;
            row++;
            latest = sortOfTurn(table);
            direction = (direction + table.turn) % 8;
        }

        private int sortOfTurn(Table table) {
            if (table.hasBook(table.off(cell, direction, 1))) {
                return STRUCK;
            }
            if (row >= 4) {
                return SAWING;
            }
            if (direction % 2 == 0) {
                return SQUARE;
            }
            return woodBeside(table, 1) || woodBeside(table, 7) ? SLANTING : CORNERED;
        }

        private boolean woodBeside(Table table, int eighths) {
            return table.isWood(table.off(cell, (direction + eighths) % 8, table.nose));
        }

        private void moveOn(Table table) {
            moves++;
            row = 0;
            cell = table.off(cell, direction, 1);
            if (!table.isWood(cell)) {
                return;
            }
            if (table.bend > 0) {
                bendFoot(table.bend);
            }
            if (cell == table.bell) {
                rings++;
            }
        }

        private void bendFoot(int bend) {
            bent++;
            if (bent >= bend) {
                bent = 0;
                direction = (direction + 1) % 8;
            }
        }
    }

    /** What NOW and the lot were when they were kept. */
    private static final class Image {
        final Now now = new Now();
        int lot;
        boolean kept;
    }

    /** Where each STAND leads by an endless spring, for one nose, turn and bend. */
    private static final class Ways {
        private static final int TURNS = -1, FALLS = -2;

        /** By cell and direction: the cell that it moves to, TURNS or FALLS. */
        private final int[] ahead = new int[MOST_CELLS * 8];
        private int laidNose;
        private int turn;
        private int bend;

        void forget() {
            laidNose = 0;
        }

        void lay(Table table, int nose) {
            if (nose == laidNose) {
                return;
            }
            for (int cell = 0; cell < table.size(); cell++) {
                for (int direction = 0; direction < 8; direction++) {
                    set(ahead, cell * 8 + direction, leads(table, cell, direction, nose));
                }
            }
            laidNose = nose;
        }

        private static int leads(Table table, int cell, int direction, int nose) {
            if (table.turnsAt(cell, direction, nose)) {
                return TURNS;
            }
            int next = table.off(cell, direction, 1);
            return table.isWood(next) ? next : FALLS;
        }

        void bind(int byTurn, int byBend) {
            turn = byTurn;
            bend = byBend;
        }

        boolean turnsAt(int stand) {
            return stand >= 0 && at(ahead, stand / BENTS) == TURNS;
        }

        /** The STAND a step later; FALLEN, if it falls. */
        int after(int stand) {
            if (stand < 0) {
                return FALLEN;
            }
            int direction = stand / BENTS % 8;
            int bent = stand % BENTS;
            int to = at(ahead, stand / BENTS);
            if (to == TURNS) {
                return standOf(cellOf(stand), (direction + turn) % 8, bent);
            }
            if (to < 0) {
                return FALLEN;
            }
            if (bend == 0) {
                return standOf(to, direction, bent);
            }
            return bent + 1 >= bend ? standOf(to, (direction + 1) % 8, 0) : standOf(to, direction, bent + 1);
        }
    }

    /** Numbers from 1 on, set at places; all are 0 again at once when they are renewed. */
    private static final class Marks {
        private final int[] marks;
        private int base;
        private int top;

        Marks(int size) {
            marks = new int[size > 0 ? size : 1];
        }

        /** From now on numbers up to most are set. */
        void renew(int most) {
            base += top;
            top = most;
            if (base > 2000000000) {
                base = 0;
                for (int i = 0; i < marks.length; i++) {
                    marks[i] = 0;
                }
            }
        }

        int get(int i) {
            return Math.max(0, at(marks, i) - base);
        }

        void set(int i, int v) {
            TinMouse.set(marks, i, base + v);
        }

        /** Marks a place: 1, if it was not marked, else 0. */
        int add(int i) {
            if (i < 0 || i >= marks.length || marks[i] > base) {
                return 0;
            }
            marks[i] = base + 1;
            return 1;
        }
    }

    /** One time through a ROUND. */
    private static final class Lap {
        private final Marks seenCells;
        int length, moves, cells;

        Lap(Marks seenCells) {
            this.seenCells = seenCells;
        }

        void empty() {
            length = 0;
            moves = 0;
            cells = 0;
        }

        void run(Ways ways, int first) {
            empty();
            seenCells.renew(1);
            int stand = first;
            do {
                int next = ways.after(stand);
                cells += seenCells.add(cellOf(stand));
                moves += cellOf(next) == cellOf(stand) ? 0 : 1;
                length++;
                stand = next;
            } while (stand != first && length < STANDS);
        }
    }

    /** ALL STARTS: each STAND on their ways is walked once, and all behind it share what comes of it. */
    private static final class Starts {
        private static final int WALKED = 1, FALLS = 2, TRAPPED = 3, ROUNDS = 4;
        private static final int NEVER = STANDS + 1;

        private final Marks seenStands;
        private final int[] path;
        private final Lap lap;
        /** By cell: how many of the rounds it was in, up to the first that it was not in. */
        private final int[] inRounds = new int[MOST_CELLS];
        int starts, falls, trapped, rounds, longest;

        Starts(Marks seenStands, int[] path, Lap lap) {
            this.seenStands = seenStands;
            this.path = path;
            this.lap = lap;
        }

        void survey(Table table, Ways ways) {
            starts = 0;
            falls = 0;
            trapped = 0;
            rounds = 0;
            longest = 0;
            seenStands.renew(ROUNDS);
            for (int i = 0; i < inRounds.length; i++) {
                inRounds[i] = 0;
            }
            for (int cell = 0; cell < table.size(); cell++) {
                for (int direction = 0; direction < 8 && table.kindOf(cell) == WOOD; direction++) {
                    judge(ways, standOf(cell, direction, 0));
                }
            }
        }

        private void judge(Ways ways, int start) {
            int stand = start;
            int walked = 0;
            while (walked < STANDS && stand != FALLEN && seenStands.get(stand) == 0) {
                seenStands.set(stand, WALKED);
                set(path, walked, stand);
                walked++;
                stand = ways.after(stand);
            }
            int fate = stand == FALLEN ? FALLS : seenStands.get(stand);
            if (fate == WALKED) {
                fate = addRound(ways, stand);
            }
            for (int i = 0; i < walked; i++) {
                seenStands.set(at(path, i), fate);
            }
            starts++;
            falls += fate == FALLS ? 1 : 0;
            trapped += fate == TRAPPED ? 1 : 0;
        }

        private int addRound(Ways ways, int first) {
            lap.run(ways, first);
            rounds++;
            longest = Math.max(longest, lap.length);
            int stand = first;
            for (int i = 0; i < lap.length; i++) {
                int cell = cellOf(stand);
                if (at(inRounds, cell) == rounds - 1) {
                    set(inRounds, cell, rounds);
                }
                stand = ways.after(stand);
            }
            return lap.moves == 0 ? TRAPPED : ROUNDS;
        }

        /** Behind survey(): the least cell that is in all rounds. */
        int leastShared(Table table) {
            for (int cell = 0; cell < table.size() && rounds > 0; cell++) {
                if (at(inRounds, cell) == rounds) {
                    return cell;
                }
            }
            return NONE;
        }

        int ringing(Table table, Ways ways, int n) {
            seenStands.renew(NEVER + 1);
            int many = 0;
            for (int cell = 0; cell < table.size(); cell++) {
                for (int direction = 0; direction < 8 && table.kindOf(cell) == WOOD; direction++) {
                    if (stepsToBell(ways, table.bell, standOf(cell, direction, 0)) <= n) {
                        many++;
                    }
                }
            }
            return many;
        }

        /** A mark is one more than the steps, as 0 is no mark. */
        private int stepsToBell(Ways ways, int bell, int start) {
            int stand = start;
            int walked = 0;
            while (walked < STANDS && stand != FALLEN && cellOf(stand) != bell && seenStands.get(stand) == 0) {
                seenStands.set(stand, NEVER + 1);
                set(path, walked, stand);
                walked++;
                stand = ways.after(stand);
            }
            int steps = NEVER;
            if (stand != FALLEN) {
                steps = cellOf(stand) == bell ? 0 : seenStands.get(stand) - 1;
            }
            for (int i = walked - 1; i >= 0; i--) {
                steps = Math.min(NEVER, steps + 1);
                seenStands.set(at(path, i), steps + 1);
            }
            return steps;
        }
    }

    /** Turns of the key with the steps by them, and the straight line through them. */
    private static final class Keys {
        private final int[] turns = new int[MOST_KEYS];
        private final int[] steps = new int[MOST_KEYS];
        int many;
        private long upper, lower;

        boolean add(int byTurns, int bySteps) {
            if (many >= MOST_KEYS) {
                return false;
            }
            set(turns, many, byTurns);
            set(steps, many, bySteps);
            many++;
            return true;
        }

        /** The slope, or what is told of t turns, as upper and lower; false, if there is no slope. */
        boolean fitLine(int t, boolean ofTurns) {
            long x = 0;
            long y = 0;
            long xx = 0;
            long xy = 0;
            for (int i = 0; i < many; i++) {
                x += at(turns, i);
                y += at(steps, i);
                xx += at(turns, i) * at(turns, i);
                xy += at(turns, i) * at(steps, i);
            }
            lower = many * xx - x * x;
            long slope = many * xy - x * y;
            upper = ofTurns ? y * xx - x * xy + slope * t : slope;
            return lower > 0;
        }

        /** In least terms upper (which = 0) or lower (1). */
        int leastTerm(int which) {
            long shared = divisorOf(Math.abs(upper), lower);
            if (shared < 1) {
                return NO;
            }
            return (int) ((which == 0 ? upper : lower) / shared);
        }
    }
}
