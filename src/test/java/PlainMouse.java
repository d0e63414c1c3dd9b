import java.util.ArrayList;
import java.util.Arrays;
import java.util.HashMap;
import java.util.HashSet;
import java.util.List;
import java.util.Map;
import java.util.Set;
import java.util.TreeSet;
import java.util.regex.Matcher;
import java.util.regex.Pattern;

/**
 * The document once more, told as directly as the Java library lets it be told: each START is walked on its own,
 * and nothing is kept between two calls but what the document keeps. The tests hold the program against it.
 */
final class PlainMouse {
    static final int BAD = -1, STATE = -2, FULL = -3, NONE = -9, NO = -1000000;
    private static final int[][] WAY = {{0, -1}, {1, -1}, {1, 0}, {1, 1}, {0, 1}, {-1, 1}, {-1, 0}, {-1, -1}};

    /** What a text tells. */
    private static final class Told {
        int wide = 8, high = 8, nose = 1, turn = 3, bend = 0, spring = 200;
        int bell = NONE, start = 0, startDirection = 2;
        final Set<Integer> holes = new HashSet<>();
        final Set<Integer> books = new HashSet<>();
    }

    /** A toy somewhere on its way. */
    private static final class Toy implements Cloneable {
        int x, y, direction, bent, row, lastTurn = NONE;
        boolean moved;

        Toy copy() {
            try {
                return (Toy) clone();
            } catch (CloneNotSupportedException e) {
                throw new IllegalStateException(e);
            }
        }

        Integer stand() {
            return ((y * 16 + x) * 8 + direction) * 10 + bent;
        }
    }

    private static final class Image {
        Toy toy;
        int[] numbers;
        int lot;
    }

    private Told told = new Told();
    private final StringBuilder text = new StringBuilder();
    private Toy toy;
    private int spring, steps, moves, turns, rings;
    private final Image[] images = new Image[2];
    private final List<Integer> tracks = new ArrayList<>();
    private final List<int[]> keys = new ArrayList<>();
    private int lot = 1;
    private long trace;

    PlainMouse() {
        begin();
    }

    private void begin() {
        toy = new Toy();
        toy.x = told.start % told.wide;
        toy.y = told.start / told.wide;
        toy.direction = told.startDirection;
        spring = told.spring;
        steps = 0;
        moves = 0;
        turns = 0;
        rings = 0;
    }

    // ---- the table

    int type(long v, int n) {
        if (n < 1 || n > 8) {
            return BAD;
        }
        if (text.length() + n > 300) {
            return FULL;
        }
        for (int shift = 8 * n - 8; shift >= 0; shift -= 8) {
            text.append((char) (v >> shift & 255));
        }
        return text.length();
    }

    int clear() {
        int had = text.length();
        text.setLength(0);
        return had;
    }

    int table() {
        Told fresh = new Told();
        int answer = read(text.toString(), fresh);
        if (answer < 0) {
            return answer;
        }
        told = fresh;
        text.setLength(0);
        tracks.clear();
        Arrays.fill(images, null);
        begin();
        return answer;
    }

    private static final Pattern TOKEN = Pattern.compile(" *([a-z]+|[0-9]+|;|\\z|.)", Pattern.DOTALL);

    private static int read(String text, Told fresh) {
        Matcher tokens = TOKEN.matcher(text);
        Set<String> seen = new HashSet<>();
        int items = 0;
        while (true) {
            tokens.find();
            String word = tokens.group(1);
            int fault = -10 - tokens.start(1);
            if (word.isEmpty()) {
                return items;
            }
            List<String> words = List.of("table", "hole", "book", "bell", "toy", "start");
            boolean again = seen.contains(word) && !word.equals("hole") && !word.equals("book");
            if (!words.contains(word) || again || word.equals("table") && items > 0) {
                return fault;
            }
            seen.add(word);
            int[] n = new int[4];
            int many = new int[] {2, 4, 4, 2, 4, 3}[words.indexOf(word)];
            for (int i = 0; i < many; i++) {
                tokens.find();
                String number = tokens.group(1);
                if (!number.matches("0|[1-9][0-9]{0,2}")) {
                    return -10 - tokens.start(1);
                }
                n[i] = Integer.parseInt(number);
                int[] range = range(fresh, word, i, n);
                if (n[i] < range[0] || n[i] > range[1]) {
                    return -10 - tokens.start(1);
                }
            }
            tokens.find();
            if (!tokens.group(1).equals(";")) {
                return -10 - tokens.start(1);
            }
            tell(fresh, word, n);
            items++;
        }
    }

    private static int[] range(Told fresh, String word, int i, int[] n) {
        int[][] ranges;
        if (word.equals("table")) {
            ranges = new int[][] {{3, 16}, {3, 16}};
        } else if (word.equals("toy")) {
            ranges = new int[][] {{1, 3}, {1, 7}, {0, 9}, {0, 999}};
        } else if (word.equals("start")) {
            ranges = new int[][] {{0, fresh.wide - 1}, {0, fresh.high - 1}, {0, 7}};
        } else {
            ranges = new int[][] {{0, fresh.wide - 1}, {0, fresh.high - 1}, {1, fresh.wide - n[0]},
                {1, fresh.high - n[1]}};
        }
        return ranges[i];
    }

    private static void tell(Told fresh, String word, int[] n) {
        switch (word) {
            case "table" -> {
                fresh.wide = n[0];
                fresh.high = n[1];
            }
            case "bell" -> fresh.bell = n[1] * fresh.wide + n[0];
            case "toy" -> {
                fresh.nose = n[0];
                fresh.turn = n[1];
                fresh.bend = n[2];
                fresh.spring = n[3];
            }
            case "start" -> {
                fresh.start = n[1] * fresh.wide + n[0];
                fresh.startDirection = n[2];
            }
            default -> {
                for (int y = n[1]; y < n[1] + n[3]; y++) {
                    for (int x = n[0]; x < n[0] + n[2]; x++) {
                        (word.equals("hole") ? fresh.holes : fresh.books).add(y * fresh.wide + x);
                    }
                }
            }
        }
    }

    private boolean onTable(int x, int y) {
        return x >= 0 && y >= 0 && x < told.wide && y < told.high;
    }

    private int number(int x, int y) {
        return y * told.wide + x;
    }

    int cell(int x, int y) {
        if (!onTable(x, y)) {
            return BAD;
        }
        return told.holes.contains(number(x, y)) ? 1 : told.books.contains(number(x, y)) ? 2 : 0;
    }

    private boolean wood(int x, int y) {
        return cell(x, y) == 0 || cell(x, y) == 2;
    }

    int told(int what) {
        int[] all = {told.wide, told.high, told.nose, told.turn, told.bend, told.spring, told.bell, told.start,
            told.startDirection};
        return what >= 0 && what < all.length ? all[what] : BAD;
    }

    int toy(int what, int v) {
        int was = what == 0 ? told.nose : what == 1 ? told.turn : told.bend;
        if (what == 0 && 1 <= v && v <= 3) {
            told.nose = v;
        } else if (what == 1 && 1 <= v && v <= 7) {
            told.turn = v;
        } else if (what == 2 && 0 <= v && v <= 9) {
            told.bend = v;
        } else {
            return BAD;
        }
        return was;
    }

    // ---- steps

    /** One step by an endless spring. */
    private void step(Toy t, int nose, int turn, int bend) {
        int aheadX = t.x + WAY[t.direction][0];
        int aheadY = t.y + WAY[t.direction][1];
        boolean struck = cell(aheadX, aheadY) == 2;
        t.moved = !struck && noseOnWood(t, t.direction, nose);
        if (!t.moved) {
            t.row++;
            t.lastTurn = kindOfTurn(t, struck, nose);
            t.direction = (t.direction + turn) % 8;
            return;
        }
        t.row = 0;
        t.x = aheadX;
        t.y = aheadY;
        if (wood(t.x, t.y) && bend > 0) {
            t.bent++;
            if (t.bent >= bend) {
                t.direction = (t.direction + 1) % 8;
                t.bent = 0;
            }
        }
    }

    private boolean noseOnWood(Toy t, int direction, int nose) {
        int[] way = WAY[(direction + 8) % 8];
        return wood(t.x + nose * way[0], t.y + nose * way[1]);
    }

    private int kindOfTurn(Toy t, boolean struck, int nose) {
        if (struck) {
            return 5;
        }
        if (t.row >= 4) {
            return 4;
        }
        if (t.direction % 2 == 0) {
            return 2;
        }
        boolean beside = noseOnWood(t, t.direction - 1, nose) || noseOnWood(t, (t.direction + 1) % 8, nose);
        return beside ? 1 : 3;
    }

    private boolean fallen(Toy t) {
        return !wood(t.x, t.y);
    }

    private int state() {
        return fallen(toy) ? 2 : spring == 0 ? 1 : 0;
    }

    int go(int n) {
        if (n < 1 || n > 999) {
            return BAD;
        }
        if (state() != 0) {
            return STATE;
        }
        int done = 0;
        while (done < n && state() == 0) {
            done++;
            spring--;
            step(toy, told.nose, told.turn, told.bend);
            if (!toy.moved) {
                turns++;
            } else {
                moves++;
                rings += !fallen(toy) && number(toy.x, toy.y) == told.bell ? 1 : 0;
            }
        }
        steps += done;
        return done;
    }

    int wind(int v) {
        if (v < 0 || v > 999) {
            return BAD;
        }
        if (state() == 2) {
            return STATE;
        }
        int was = spring;
        spring = v;
        return was;
    }

    int put(int x, int y, int d) {
        if (d < 0 || d > 7 || cell(x, y) != 0) {
            return BAD;
        }
        int lastTurn = toy.lastTurn;
        toy = at(x, y, d);
        toy.lastTurn = lastTurn;
        return 1;
    }

    private static Toy at(int x, int y, int d) {
        Toy t = new Toy();
        t.x = x;
        t.y = y;
        t.direction = d;
        return t;
    }

    int anew() {
        int had = steps;
        begin();
        return had;
    }

    int now(int what) {
        int cell = onTable(toy.x, toy.y) ? number(toy.x, toy.y) : NONE;
        int[] all = {cell, toy.direction, toy.bent, spring, state(), steps, moves, turns, rings, toy.lastTurn};
        return what >= 0 && what < all.length ? all[what] : BAD;
    }

    // ---- ways that come again

    /** TAIL, LENGTH, MOVES, then the round's cells; a fall's TAIL stands alone. */
    private int[] roundOf(Toy from, int nose, Set<Integer> cells, Set<Integer> stands) {
        Toy t = from.copy();
        Map<Integer, Integer> seen = new HashMap<>();
        List<Toy> way = new ArrayList<>();
        while (!seen.containsKey(t.stand())) {
            seen.put(t.stand(), way.size());
            way.add(t.copy());
            step(t, nose, told.turn, told.bend);
            way.get(way.size() - 1).moved = t.moved;
            if (fallen(t)) {
                return new int[] {way.size(), 0, 0, 0, 1};
            }
        }
        int tail = seen.get(t.stand());
        int roundMoves = 0;
        for (Toy w : way.subList(tail, way.size())) {
            roundMoves += w.moved ? 1 : 0;
            cells.add(number(w.x, w.y));
            stands.add(w.stand());
        }
        return new int[] {tail, way.size() - tail, roundMoves, cells.size(), 0};
    }

    int round(int what) {
        if (what < 0 || what > 3) {
            return BAD;
        }
        return state() == 2 ? STATE : roundOf(toy, told.nose, new HashSet<>(), new HashSet<>())[what];
    }

    private List<Toy> allStarts() {
        List<Toy> starts = new ArrayList<>();
        for (int y = 0; y < told.high; y++) {
            for (int x = 0; x < told.wide; x++) {
                for (int d = 0; d < 8 && cell(x, y) == 0; d++) {
                    starts.add(at(x, y, d));
                }
            }
        }
        return starts;
    }

    int starts(int what) {
        int falls = 0;
        int trapped = 0;
        int longest = 0;
        Set<Set<Integer>> rounds = new HashSet<>();
        for (Toy start : allStarts()) {
            Set<Integer> stands = new HashSet<>();
            int[] round = roundOf(start, told.nose, new HashSet<>(), stands);
            falls += round[4];
            if (round[4] == 0) {
                trapped += round[2] == 0 ? 1 : 0;
                longest = Math.max(longest, round[1]);
                rounds.add(stands);
            }
        }
        int[] all = {allStarts().size(), falls, trapped, rounds.size(), longest};
        return what >= 0 && what < all.length ? all[what] : BAD;
    }

    int rings(int n) {
        if (n < 0 || n > 999) {
            return BAD;
        }
        int many = 0;
        for (Toy start : allStarts()) {
            Toy t = start.copy();
            boolean rang = number(t.x, t.y) == told.bell;
            for (int i = 0; i < n && !rang && !fallen(t); i++) {
                step(t, told.nose, told.turn, told.bend);
                rang = !fallen(t) && number(t.x, t.y) == told.bell;
            }
            many += rang ? 1 : 0;
        }
        return many;
    }

    int common() {
        Set<Integer> common = null;
        for (Toy start : allStarts()) {
            Set<Integer> cells = new HashSet<>();
            if (roundOf(start, told.nose, cells, new HashSet<>())[4] == 0) {
                if (common == null) {
                    common = new TreeSet<>(cells);
                }
                common.retainAll(cells);
            }
        }
        return common == null || common.isEmpty() ? NONE : ((TreeSet<Integer>) common).first();
    }

    int safe() {
        int bits = 0;
        for (int nose = 1; nose <= 3; nose++) {
            boolean falls = false;
            for (Toy start : allStarts()) {
                falls |= roundOf(start, nose, new HashSet<>(), new HashSet<>())[4] == 1;
            }
            bits += falls ? 0 : 1 << nose - 1;
        }
        return bits;
    }

    private int covered(int n, int turn) {
        Set<Integer> cells = new HashSet<>();
        Toy t = toy.copy();
        for (int i = 0; i <= n && !fallen(t); i++) {
            cells.add(number(t.x, t.y));
            step(t, told.nose, turn, told.bend);
        }
        return cells.size();
    }

    int covers(int n) {
        if (n < 0 || n > 9999) {
            return BAD;
        }
        return state() == 2 ? STATE : covered(n, told.turn);
    }

    int everywhere() {
        if (state() == 2) {
            return STATE;
        }
        Set<Integer> left = new HashSet<>();
        for (Toy start : allStarts()) {
            left.add(number(start.x, start.y));
        }
        Toy t = toy.copy();
        for (int i = 0; i <= 9999 && !fallen(t); i++) {
            left.remove(number(t.x, t.y));
            if (left.isEmpty()) {
                return i;
            }
            step(t, told.nose, told.turn, told.bend);
        }
        return NONE;
    }

    int best(int n) {
        if (n < 0 || n > 999) {
            return BAD;
        }
        if (state() == 2) {
            return STATE;
        }
        int best = 1;
        for (int turn = 2; turn <= 7; turn++) {
            best = covered(n, turn) > covered(n, best) ? turn : best;
        }
        return best;
    }

    // ---- tracks, others, chance

    int track(int cell) {
        if (cell < 0 || cell >= told.wide * told.high) {
            return BAD;
        }
        if (tracks.size() == 16) {
            return FULL;
        }
        tracks.add(cell);
        return tracks.size();
    }

    int wipe() {
        int had = tracks.size();
        tracks.clear();
        return had;
    }

    int fits(int what) {
        List<Integer> fitting = new ArrayList<>();
        for (int turn = 1; turn <= 7; turn++) {
            for (int bend = 0; bend <= 9; bend++) {
                for (int d = 0; d <= 7; d++) {
                    if (tracks.size() < 2 || goesSo(turn, bend, d)) {
                        fitting.add(100 * turn + 10 * bend + d);
                    }
                }
            }
        }
        return what == 0 ? fitting.size() : what != 1 ? BAD : fitting.isEmpty() ? NONE : fitting.get(0);
    }

    private boolean goesSo(int turn, int bend, int d) {
        Toy t = at(tracks.get(0) % told.wide, tracks.get(0) / told.wide, d);
        for (int cell : tracks) {
            if (fallen(t) || number(t.x, t.y) != cell) {
                return false;
            }
            step(t, told.nose, turn, bend);
        }
        return true;
    }

    int meet(int x, int y, int d) {
        if (d < 0 || d > 7 || cell(x, y) != 0) {
            return BAD;
        }
        if (state() == 2) {
            return STATE;
        }
        Toy mine = toy.copy();
        Toy other = at(x, y, d);
        for (int i = 0; i <= 4096 && !fallen(mine) && !fallen(other); i++) {
            if (mine.x == other.x && mine.y == other.y) {
                return i;
            }
            step(mine, told.nose, told.turn, told.bend);
            step(other, told.nose, told.turn, told.bend);
        }
        return NONE;
    }

    int drawn(int n) {
        if (n < 0 || n > 999) {
            return BAD;
        }
        if (state() == 2) {
            return STATE;
        }
        Set<Integer> cells = new HashSet<>();
        Toy t = toy.copy();
        cells.add(number(t.x, t.y));
        for (int i = 0; i < n && !fallen(t); i++) {
            long next = lot * 1103515245L + 12345L;
            int upper = (int) (next >> 16 & 65535);
            step(t, told.nose, 1 + upper % 7, told.bend);
            lot = t.moved ? lot : (int) next;
            if (!fallen(t)) {
                cells.add(number(t.x, t.y));
            }
        }
        return cells.size();
    }

    int lot(int v) {
        int was = lot;
        lot = v;
        return was;
    }

    // ---- keys, a round table

    int key(int byTurns, int bySteps) {
        if (byTurns < 1 || byTurns > 9 || bySteps < 0 || bySteps > 999) {
            return BAD;
        }
        if (keys.size() == 20) {
            return FULL;
        }
        keys.add(new int[] {byTurns, bySteps});
        return keys.size();
    }

    int law(int t, int what) {
        if (t < 0 || t > 99 || what < 0 || what > 3 || keys.stream().map(k -> k[0]).distinct().count() < 2) {
            return NO;
        }
        Fraction meanX = Fraction.of(keys.stream().mapToInt(k -> k[0]).sum()).over(keys.size());
        Fraction meanY = Fraction.of(keys.stream().mapToInt(k -> k[1]).sum()).over(keys.size());
        Fraction above = Fraction.of(0);
        Fraction below = Fraction.of(0);
        for (int[] k : keys) {
            Fraction x = Fraction.of(k[0]).less(meanX);
            above = above.plus(x.times(Fraction.of(k[1]).less(meanY)));
            below = below.plus(x.times(x));
        }
        Fraction slope = above.over(below);
        Fraction told1 = meanY.plus(slope.times(Fraction.of(t).less(meanX)));
        Fraction answer = what < 2 ? slope : told1;
        return what % 2 == 0 ? answer.upper.intValueExact() : answer.lower.intValueExact();
    }

    int circle(int p, int q) {
        if (q < 1 || q > 360 || p < 0 || p >= q) {
            return BAD;
        }
        Set<Integer> places = new HashSet<>();
        int place = 0;
        while (places.add(place)) {
            place = (place + 2 * p) % q;
        }
        return places.size();
    }

    // ---- kinds, images

    int rate(int kind) {
        if (kind < 0 || kind > 5 || toy.lastTurn == NONE) {
            return NO;
        }
        int[] bodies = {1, 11, 101, 1011, 10101, 100001};
        trace += bodies[kind];
        return switch (kind) {
            case 0 -> turns;
            case 1 -> turns + toy.direction;
            case 2 -> turns + told.nose;
            case 3 -> 2 * (turns + toy.direction);
            case 4 -> turns + told.nose + toy.row;
            default -> turns - moves;
        };
    }

    int keep(int image) {
        if (image != 0 && image != 1) {
            return BAD;
        }
        images[image] = new Image();
        images[image].toy = toy.copy();
        images[image].numbers = new int[] {spring, steps, moves, turns, rings};
        images[image].lot = lot;
        return steps;
    }

    int back(int image) {
        if (image != 0 && image != 1) {
            return BAD;
        }
        if (images[image] == null) {
            return STATE;
        }
        toy = images[image].toy.copy();
        int[] n = images[image].numbers;
        spring = n[0];
        steps = n[1];
        moves = n[2];
        turns = n[3];
        rings = n[4];
        lot = images[image].lot;
        return steps;
    }

    int count(int what) {
        int[] kinds = new int[3];
        for (int y = 0; y < told.high; y++) {
            for (int x = 0; x < told.wide; x++) {
                kinds[cell(x, y)]++;
            }
        }
        int[] all = {kinds[0], kinds[1], kinds[2], tracks.size(), keys.size(), text.length()};
        return what >= 0 && what < all.length ? all[what] : BAD;
    }

    long trace() {
        return trace;
    }
}
