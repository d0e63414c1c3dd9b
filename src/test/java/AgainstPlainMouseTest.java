/** Long runs of mixed calls, each answer held against the document told once more by PlainMouse. */
public final class AgainstPlainMouseTest {
    private static final int RUNS = 200, CALLS = 500;

    /** A row of numbers that is the same each time. */
    private static final class Dice {
        private long state;

        Dice(long seed) {
            state = seed * 2862933555777941757L + 3037000493L;
        }

        int below(int n) {
            state = state * 6364136223846793005L + 1442695040888963407L;
            return (int) ((state >>> 33) % n);
        }

        int from(int least, int most) {
            return least + below(most - least + 1);
        }

        boolean oneIn(int n) {
            return below(n) == 0;
        }

        /** Mostly a number from least to most, now and then one just beyond, or far off. */
        int about(int least, int most) {
            int[] odd = {least - 1, least, most, most + 1, Integer.MIN_VALUE, Integer.MAX_VALUE, -9};
            return oneIn(12) ? odd[below(odd.length)] : from(least, most);
        }
    }

    private final Checks checks = new Checks();
    private final Dice dice;
    private final TinMouse mouse = new TinMouse();
    private final PlainMouse plain = new PlainMouse();
    private final int run;
    private final boolean large;
    private static int wrongRuns;

    private AgainstPlainMouseTest(int run) {
        this.run = run;
        dice = new Dice(run);
        large = run % 40 == 39;
    }

    public static void main(String[] args) {
        Checks total = new Checks();
        for (int run = 0; run < RUNS; run++) {
            new AgainstPlainMouseTest(run).runCalls();
        }
        total.due("runs with an answer that is not as due", wrongRuns, 0);
        total.end();
    }

    private void runCalls() {
        tellTable();
        for (int i = 0; i < (large ? 60 : CALLS); i++) {
            if (!oneCall()) {
                wrongRuns++;
                return;
            }
        }
    }

    private boolean same(String call, long got, long want) {
        if (got != want) {
            checks.due("run " + run + ": " + call, got, want);
        }
        return got == want;
    }

    private boolean oneCall() {
        int call = dice.below(100);
        if (call < 3) {
            return tellTable();
        }
        if (call < 30) {
            return stepCall(dice.below(5));
        }
        if (call < 50) {
            return lookCall();
        }
        if (call < 65) {
            return wayCall(dice.below(large && !dice.oneIn(12) ? 4 : 8));
        }
        return call < 82 ? otherCall(dice.below(9)) : kindCall(dice.below(5));
    }

    private boolean tellTable() {
        String text = dice.oneIn(20) ? "" : randomText();
        if (!dice.oneIn(4)) {
            mouse.clear();
            plain.clear();
        }
        for (int i = 0; i < text.length(); i += 7) {
            String part = text.substring(i, Math.min(text.length(), i + 7));
            long v = Checks.packed(part) | 0x5A00000000000000L;
            if (!same("type(" + v + ", " + part.length() + ")", mouse.type(v, part.length()),
                    plain.type(v, part.length()))) {
                return false;
            }
        }
        return same("table() of \"" + text + "\"", mouse.table(), plain.table()) && sameNow();
    }

    private String randomText() {
        int wide = large ? dice.from(12, 16) : dice.from(3, 7);
        int high = large ? dice.from(12, 16) : dice.from(3, 7);
        StringBuilder s = new StringBuilder("table " + wide + " " + high + ";");
        int items = dice.below(8);
        for (int i = 0; i < items; i++) {
            s.append(spaces()).append(randomItem(wide, high));
        }
        if (dice.oneIn(6)) {
            int place = dice.below(s.length());
            String odd = " ;0129azbell\n\0\u00e9";
            char c = odd.charAt(dice.below(odd.length()));
            if (dice.oneIn(3)) {
                s.deleteCharAt(place);
            } else if (dice.oneIn(2)) {
                s.insert(place, c);
            } else {
                s.setLength(place);
            }
        }
        return s.toString();
    }

    private String spaces() {
        return "  ".substring(0, dice.below(3));
    }

    private String randomItem(int wide, int high) {
        int x = dice.below(wide);
        int y = dice.below(high);
        String at = x + " " + y + " ";
        String across = dice.from(1, Math.min(3, wide - x)) + " " + dice.from(1, Math.min(2, high - y));
        switch (dice.below(7)) {
            case 0:
            case 1: return "hole " + at + across + spaces() + ";";
            case 2:
            case 3: return "book" + spaces() + at + across + ";";
            case 4: return "bell " + at + ";";
            case 5: return "toy " + dice.about(1, 3) + " " + dice.from(1, 7) + " " + dice.from(0, 9) + " "
                + dice.about(0, 999) + ";";
            default: return "start " + at + dice.from(0, 7) + ";";
        }
    }

    private boolean sameNow() {
        boolean same = true;
        for (int what = -1; what <= 10; what++) {
            same &= same("now(" + what + ")", mouse.now(what), plain.now(what));
        }
        return same;
    }

    private boolean stepCall(int which) {
        int n = dice.oneIn(3) ? dice.about(1, 999) : dice.about(1, 9);
        int x = dice.about(0, 6);
        int y = dice.about(0, 6);
        int d = dice.about(0, 7);
        int v = dice.about(0, 999);
        switch (which) {
            case 0:
            case 1: return same("go(" + n + ")", mouse.go(n), plain.go(n)) && sameNow();
            case 2: return same("put(" + x + ", " + y + ", " + d + ")", mouse.put(x, y, d), plain.put(x, y, d))
                && sameNow();
            case 3: return same("wind(" + v + ")", mouse.wind(v), plain.wind(v)) && sameNow();
            default: return !dice.oneIn(3) || same("anew()", mouse.anew(), plain.anew()) && sameNow();
        }
    }

    private boolean lookCall() {
        int what = dice.about(0, 8);
        int x = dice.about(0, 15);
        int y = dice.about(0, 15);
        int toy = dice.about(0, 2);
        int v = dice.about(0, 9);
        boolean same = same("told(" + what + ")", mouse.told(what), plain.told(what))
            && same("cell(" + x + ", " + y + ")", mouse.cell(x, y), plain.cell(x, y))
            && same("count(" + what + ")", mouse.count(what), plain.count(what));
        if (dice.oneIn(4)) {
            same &= same("toy(" + toy + ", " + v + ")", mouse.toy(toy, v), plain.toy(toy, v));
        }
        return same;
    }

    private boolean wayCall(int which) {
        int what = dice.about(0, 4);
        int n = dice.oneIn(3) ? dice.about(0, 999) : dice.about(0, 20);
        int many = dice.oneIn(3) ? dice.about(0, 9999) : n;
        switch (which) {
            case 0: return same("round(" + what + ")", mouse.round(what), plain.round(what));
            case 1: return same("covers(" + many + ")", mouse.covers(many), plain.covers(many));
            case 2: return same("everywhere()", mouse.everywhere(), plain.everywhere());
            case 3: return same("best(" + n + ")", mouse.best(n), plain.best(n));
            case 4: return same("rings(" + n + ")", mouse.rings(n), plain.rings(n));
            case 5: return same("starts(" + what + ")", mouse.starts(what), plain.starts(what));
            case 6: return same("common()", mouse.common(), plain.common());
            default: return same("safe()", mouse.safe(), plain.safe());
        }
    }

    private boolean otherCall(int which) {
        int cell = dice.about(0, 48);
        int what = dice.about(0, 1);
        int x = dice.about(0, 6);
        int y = dice.about(0, 6);
        int d = dice.about(0, 7);
        int n = dice.oneIn(3) ? dice.about(0, 999) : dice.about(0, 20);
        switch (which) {
            case 0: return seeTrack();
            case 1: return same("track(" + cell + ")", mouse.track(cell), plain.track(cell));
            case 2: return same("wipe()", mouse.wipe(), plain.wipe());
            case 3:
            case 4: return same("fits(" + what + ")", mouse.fits(what), plain.fits(what));
            case 5:
            case 6: return same("meet(" + x + ", " + y + ", " + d + ")", mouse.meet(x, y, d), plain.meet(x, y, d));
            case 7: return same("drawn(" + n + ")", mouse.drawn(n), plain.drawn(n));
            default: return same("lot(" + n * 77777 + ")", mouse.lot(n * 77777), plain.lot(n * 77777));
        }
    }

    /** Tells as tracks where it is seen from its first place on. */
    private boolean seeTrack() {
        boolean same = same("wipe()", mouse.wipe(), plain.wipe());
        same &= same("keep(1)", mouse.keep(1), plain.keep(1));
        int many = dice.below(17);
        for (int i = 0; i < many; i++) {
            int cell = plain.now(0);
            same &= same("track(" + cell + ")", mouse.track(cell), plain.track(cell));
            same &= same("go(1)", mouse.go(1), plain.go(1));
        }
        return same && same("back(1)", mouse.back(1), plain.back(1))
            && same("fits(0)", mouse.fits(0), plain.fits(0)) && same("fits(1)", mouse.fits(1), plain.fits(1));
    }

    private boolean kindCall(int which) {
        int turns = dice.about(1, 9);
        int steps = dice.about(0, 999);
        int t = dice.about(0, 99);
        int what = dice.about(0, 3);
        int kind = dice.about(0, 5);
        int image = dice.about(0, 1);
        int q = dice.about(1, 360);
        int p = dice.about(0, Math.max(0, Math.min(q, 1000)));
        switch (which) {
            case 0: return same("key(" + turns + ", " + steps + ")", mouse.key(turns, steps), plain.key(turns, steps));
            case 1: return same("law(" + t + ", " + what + ")", mouse.law(t, what), plain.law(t, what));
            case 2: return same("circle(" + p + ", " + q + ")", mouse.circle(p, q), plain.circle(p, q));
            case 3: return same("rate(" + kind + ")", mouse.rate(kind), plain.rate(kind))
                && same("trace()", mouse.trace(), plain.trace());
            default: return dice.oneIn(2) ? same("keep(" + image + ")", mouse.keep(image), plain.keep(image))
                : same("back(" + image + ")", mouse.back(image), plain.back(image)) && sameNow();
        }
    }
}
