import java.util.ArrayList;
import java.util.List;
import java.util.Set;
import java.util.TreeSet;
import java.util.function.Consumer;
import java.util.function.Supplier;
import java.util.function.ToLongFunction;

/**
 * "Refused, and nothing changes, the first of these: BAD, STATE, FULL": each refused call on an object in each of some
 * states, and all that can be seen of it held against a twin that was not asked. So, too, the calls that only ask,
 * and for the others what they change and what stays.
 */
public final class RefusedTest {
    private static final int BAD = -1, STATE = -2, FULL = -3, NO = -1000000;
    private static final int[] FAR = {Integer.MIN_VALUE, -1000000, -9, -3, -2, -1, 1000000, Integer.MAX_VALUE};
    private static final Checks CHECKS = new Checks();

    private record Call(String name, ToLongFunction<TinMouse> ask, int refusal) {
    }

    private record State(String name, Supplier<TinMouse> made) {
    }

    public static void main(String[] args) {
        List<State> states = List.of(new State("new", TinMouse::new), new State("busy", RefusedTest::busy),
            new State("over", RefusedTest::over), new State("ended", RefusedTest::ended),
            new State("on a book", RefusedTest::onABook));
        for (State state : states) {
            for (Call call : badCalls()) {
                refused(state, call);
            }
            for (Call call : asking()) {
                unchanged(state, call);
            }
        }
        stateCalls();
        fullCalls();
        changing();
        CHECKS.end();
    }

    private static Call call(String name, int refusal, ToLongFunction<TinMouse> ask) {
        return new Call(name, ask, refusal);
    }

    /** It moves and turned, all rows are full but for the text's last four bytes, and both images are kept. */
    private static TinMouse busy() {
        TinMouse x = Checks.told("table 6 6;hole 4 4 1 1;book 0 5 2 1;bell 3 0;toy 1 3 4 500;start 1 0 2;");
        x.go(23);
        x.keep(0);
        x.lot(77);
        x.go(11);
        x.keep(1);
        x.lot(99);
        x.go(5);
        x.rate(4);
        for (int i = 0; i < 16; i++) {
            x.track(i % 2 == 0 ? 7 : 8);
        }
        for (int i = 0; i < 20; i++) {
            x.key(1 + i % 9, 50 * i);
        }
        Checks.typeText(x, "table 9 9;bell 8 8;" + " ".repeat(277));
        return x;
    }

    /** It fell behind a turn; one image is kept. */
    private static TinMouse over() {
        TinMouse x = Checks.told("table 7 3;hole 0 0 7 1;hole 0 2 7 1;hole 4 1 1 1;toy 2 2 3 50;bell 3 1;");
        x.put(3, 1, 0);
        x.lot(31);
        x.keep(1);
        x.go(5);
        x.track(10);
        x.track(10);
        x.key(3, 30);
        x.key(4, 44);
        x.lot(-1);
        x.type(0x626F6F, 3);
        return x;
    }

    private static TinMouse ended() {
        TinMouse x = Checks.told("table 5 5;toy 1 2 3 8;bell 2 2;start 2 2 1;hole 0 4 1 1;");
        x.go(99);
        x.keep(0);
        x.track(12);
        x.key(9, 0);
        return x;
    }

    private static TinMouse onABook() {
        return Checks.told("table 4 4;book 1 1 1 1;start 1 1 5;toy 3 7 9 0;");
    }

    private static void refused(State state, Call call) {
        String name = state.name + ": " + call.name;
        CHECKS.due(name, call.ask.applyAsLong(state.made.get()), call.refusal);
        unchanged(state, call);
    }

    /** It is asked twice, as a change by the first might be taken back by the second. */
    private static void unchanged(State state, Call call) {
        for (int times = 1; times <= 2; times++) {
            TinMouse x = state.made.get();
            for (int i = 0; i < times; i++) {
                call.ask.applyAsLong(x);
            }
            Set<String> unlike = Whole.unlike(x, state.made.get());
            CHECKS.due(state.name + ": " + call.name + " asked " + times + " times changed " + unlike, unlike.size(), 0);
        }
    }

    /** Each number of each call, just beyond what it may be and far off; BAD whatever the state is. */
    private static List<Call> badCalls() {
        List<Call> calls = new ArrayList<>();
        for (int v : FAR) {
            calls.add(call("type(5, " + v + ")", BAD, x -> x.type(5, v)));
            calls.add(call("go(" + v + ")", BAD, x -> x.go(v)));
            calls.add(call("wind(" + v + ")", BAD, x -> x.wind(v)));
            addOneNumber(calls, v);
            addMoreNumbers(calls, v);
        }
        calls.add(call("type(5, 0)", BAD, x -> x.type(5, 0)));
        calls.add(call("type(5, 9)", BAD, x -> x.type(5, 9)));
        calls.add(call("cell(16, 0)", BAD, x -> x.cell(16, 0)));
        calls.add(call("cell(0, 16)", BAD, x -> x.cell(0, 16)));
        calls.add(call("told(9)", BAD, x -> x.told(9)));
        calls.add(call("toy(0, 0)", BAD, x -> x.toy(0, 0)));
        calls.add(call("toy(0, 4)", BAD, x -> x.toy(0, 4)));
        calls.add(call("toy(1, 0)", BAD, x -> x.toy(1, 0)));
        calls.add(call("toy(1, 8)", BAD, x -> x.toy(1, 8)));
        calls.add(call("toy(2, 10)", BAD, x -> x.toy(2, 10)));
        calls.add(call("toy(3, 1)", BAD, x -> x.toy(3, 1)));
        calls.add(call("go(0)", BAD, x -> x.go(0)));
        calls.add(call("go(1000)", BAD, x -> x.go(1000)));
        calls.add(call("wind(1000)", BAD, x -> x.wind(1000)));
        calls.add(call("put(16, 0, 0)", BAD, x -> x.put(16, 0, 0)));
        calls.add(call("put(0, 16, 0)", BAD, x -> x.put(0, 16, 0)));
        calls.add(call("put(0, 0, 8)", BAD, x -> x.put(0, 0, 8)));
        calls.add(call("meet(16, 0, 0)", BAD, x -> x.meet(16, 0, 0)));
        calls.add(call("meet(0, 16, 0)", BAD, x -> x.meet(0, 16, 0)));
        calls.add(call("meet(0, 0, 8)", BAD, x -> x.meet(0, 0, 8)));
        addJustBeyond(calls);
        return calls;
    }

    private static void addOneNumber(List<Call> calls, int v) {
        calls.add(call("told(" + v + ")", BAD, x -> x.told(v)));
        calls.add(call("now(" + v + ")", BAD, x -> x.now(v)));
        calls.add(call("round(" + v + ")", BAD, x -> x.round(v)));
        calls.add(call("starts(" + v + ")", BAD, x -> x.starts(v)));
        calls.add(call("rings(" + v + ")", BAD, x -> x.rings(v)));
        calls.add(call("covers(" + v + ")", BAD, x -> x.covers(v)));
        calls.add(call("best(" + v + ")", BAD, x -> x.best(v)));
        calls.add(call("track(" + v + ")", BAD, x -> x.track(v)));
        calls.add(call("fits(" + v + ")", BAD, x -> x.fits(v)));
        calls.add(call("drawn(" + v + ")", BAD, x -> x.drawn(v)));
        calls.add(call("rate(" + v + ")", NO, x -> x.rate(v)));
        calls.add(call("keep(" + v + ")", BAD, x -> x.keep(v)));
        calls.add(call("back(" + v + ")", BAD, x -> x.back(v)));
        calls.add(call("count(" + v + ")", BAD, x -> x.count(v)));
    }

    private static void addMoreNumbers(List<Call> calls, int v) {
        calls.add(call("cell(" + v + ", 0)", BAD, x -> x.cell(v, 0)));
        calls.add(call("cell(0, " + v + ")", BAD, x -> x.cell(0, v)));
        calls.add(call("toy(" + v + ", 1)", BAD, x -> x.toy(v, 1)));
        for (int what = 0; what <= 2; what++) {
            int of = what;
            calls.add(call("toy(" + what + ", " + v + ")", BAD, x -> x.toy(of, v)));
        }
        calls.add(call("put(" + v + ", 1, 1)", BAD, x -> x.put(v, 1, 1)));
        calls.add(call("put(1, " + v + ", 1)", BAD, x -> x.put(1, v, 1)));
        calls.add(call("put(2, 1, " + v + ")", BAD, x -> x.put(2, 1, v)));
        calls.add(call("meet(" + v + ", 1, 1)", BAD, x -> x.meet(v, 1, 1)));
        calls.add(call("meet(1, " + v + ", 1)", BAD, x -> x.meet(1, v, 1)));
        calls.add(call("meet(2, 1, " + v + ")", BAD, x -> x.meet(2, 1, v)));
        calls.add(call("key(" + v + ", 1)", BAD, x -> x.key(v, 1)));
        calls.add(call("key(1, " + v + ")", BAD, x -> x.key(1, v)));
        calls.add(call("law(" + v + ", 2)", NO, x -> x.law(v, 2)));
        calls.add(call("law(1, " + v + ")", NO, x -> x.law(1, v)));
        calls.add(call("circle(" + v + ", 9)", BAD, x -> x.circle(v, 9)));
        calls.add(call("circle(0, " + v + ")", BAD, x -> x.circle(0, v)));
    }

    private static void addJustBeyond(List<Call> calls) {
        calls.add(call("now(10)", BAD, x -> x.now(10)));
        calls.add(call("round(4)", BAD, x -> x.round(4)));
        calls.add(call("starts(5)", BAD, x -> x.starts(5)));
        calls.add(call("rings(1000)", BAD, x -> x.rings(1000)));
        calls.add(call("covers(10000)", BAD, x -> x.covers(10000)));
        calls.add(call("best(1000)", BAD, x -> x.best(1000)));
        calls.add(call("track(256)", BAD, x -> x.track(256)));
        calls.add(call("fits(2)", BAD, x -> x.fits(2)));
        calls.add(call("drawn(1000)", BAD, x -> x.drawn(1000)));
        calls.add(call("key(0, 1)", BAD, x -> x.key(0, 1)));
        calls.add(call("key(10, 1)", BAD, x -> x.key(10, 1)));
        calls.add(call("key(1, 1000)", BAD, x -> x.key(1, 1000)));
        calls.add(call("law(100, 2)", NO, x -> x.law(100, 2)));
        calls.add(call("law(1, 4)", NO, x -> x.law(1, 4)));
        calls.add(call("circle(0, 0)", BAD, x -> x.circle(0, 0)));
        calls.add(call("circle(0, 361)", BAD, x -> x.circle(0, 361)));
        calls.add(call("circle(9, 9)", BAD, x -> x.circle(9, 9)));
        calls.add(call("rate(6)", NO, x -> x.rate(6)));
        calls.add(call("keep(2)", BAD, x -> x.keep(2)));
        calls.add(call("back(2)", BAD, x -> x.back(2)));
        calls.add(call("count(6)", BAD, x -> x.count(6)));
    }

    /** The calls that only ask: whatever they answer, nothing changes. */
    private static List<Call> asking() {
        List<Call> calls = new ArrayList<>();
        for (int v = 0; v <= 8; v++) {
            int of = v;
            calls.add(call("told(" + v + ")", 0, x -> x.told(of)));
            calls.add(call("now(" + v + ")", 0, x -> x.now(of)));
            calls.add(call("round(" + v + ")", 0, x -> x.round(of)));
            calls.add(call("starts(" + v + ")", 0, x -> x.starts(of)));
            calls.add(call("count(" + v + ")", 0, x -> x.count(of)));
            calls.add(call("cell(" + v + ", 1)", 0, x -> x.cell(of, 1)));
            calls.add(call("meet(" + v + ", 1, 2)", 0, x -> x.meet(of, 1, 2)));
            calls.add(call("law(" + v + ", 2)", 0, x -> x.law(of, 2)));
            calls.add(call("circle(" + v + ", 9)", 0, x -> x.circle(of, 9)));
        }
        for (int n : new int[] {0, 1, 30, 999}) {
            calls.add(call("rings(" + n + ")", 0, x -> x.rings(n)));
            calls.add(call("covers(" + n + ")", 0, x -> x.covers(n)));
            calls.add(call("best(" + n + ")", 0, x -> x.best(n)));
        }
        calls.add(call("covers(9999)", 0, x -> x.covers(9999)));
        calls.add(call("common()", 0, TinMouse::common));
        calls.add(call("safe()", 0, TinMouse::safe));
        calls.add(call("everywhere()", 0, TinMouse::everywhere));
        calls.add(call("fits(0)", 0, x -> x.fits(0)));
        calls.add(call("fits(1)", 0, x -> x.fits(1)));
        calls.add(call("trace()", 0, TinMouse::trace));
        return calls;
    }

    /** STATE, as each promise tells it, and nothing changes. */
    private static void stateCalls() {
        State over = new State("over", RefusedTest::over);
        State fallen = new State("over at once", () -> Checks.told("hole 0 0 1 1;"));
        State ended = new State("ended", RefusedTest::ended);
        State fresh = new State("new", TinMouse::new);
        List<Call> calls = new ArrayList<>();
        for (int n : new int[] {1, 2, 999}) {
            calls.add(call("go(" + n + ")", STATE, x -> x.go(n)));
        }
        calls.forEach(call -> refused(ended, call));
        for (int n : new int[] {0, 1, 999}) {
            calls.add(call("wind(" + n + ")", STATE, x -> x.wind(n)));
            calls.add(call("covers(" + n + ")", STATE, x -> x.covers(n)));
            calls.add(call("best(" + n + ")", STATE, x -> x.best(n)));
            calls.add(call("drawn(" + n + ")", STATE, x -> x.drawn(n)));
        }
        calls.add(call("covers(9999)", STATE, x -> x.covers(9999)));
        for (int what = 0; what <= 3; what++) {
            int of = what;
            calls.add(call("round(" + what + ")", STATE, x -> x.round(of)));
            refused(fresh, call("law(3, " + what + ")", NO, x -> x.law(3, of)));
            refused(ended, call("law(9, " + what + ")", NO, x -> x.law(9, of)));
        }
        calls.add(call("everywhere()", STATE, TinMouse::everywhere));
        calls.add(call("meet(1, 1, 2)", STATE, x -> x.meet(1, 1, 2)));
        calls.add(call("back(0)", STATE, x -> x.back(0)));
        for (Call call : calls) {
            boolean wood = call.name.startsWith("meet");
            refused(wood ? new State("over", () -> fellIn("table 7 3;hole 4 1 1 1;toy 2 2 3 50;")) : over, call);
            refused(fallen, call);
        }
        for (int kind = 0; kind <= 5; kind++) {
            int of = kind;
            refused(fresh, call("rate(" + kind + ")", NO, x -> x.rate(of)));
        }
        refused(fresh, call("back(0)", STATE, x -> x.back(0)));
        refused(fresh, call("back(1)", STATE, x -> x.back(1)));
        refused(ended, call("back(1)", STATE, x -> x.back(1)));
    }

    private static TinMouse fellIn(String text) {
        TinMouse x = Checks.told(text);
        x.put(3, 1, 2);
        x.go(1);
        return x;
    }

    private static void fullCalls() {
        State busy = new State("busy", RefusedTest::busy);
        for (int n = 5; n <= 8; n++) {
            int of = n;
            refused(busy, call("type(32, " + n + ")", FULL, x -> x.type(0x2020202020202020L, of)));
        }
        State brim = new State("busy to the brim", () -> {
            TinMouse x = busy();
            CHECKS.due("four bytes more", x.type(0x20202020, 4), 300);
            return x;
        });
        for (int n = 1; n <= 8; n++) {
            int of = n;
            refused(brim, call("type(32, " + n + ")", FULL, x -> x.type(0x2020202020202020L, of)));
        }
        for (int cell : new int[] {0, 7, 35}) {
            refused(busy, call("track(" + cell + ")", FULL, x -> x.track(cell)));
        }
        refused(busy, call("key(1, 0)", FULL, x -> x.key(1, 0)));
        refused(busy, call("key(9, 999)", FULL, x -> x.key(9, 999)));
        State faulty = new State("a faulty text", () -> {
            TinMouse x = busy();
            x.clear();
            Checks.typeText(x, "table 9 9;bell 8 8;hole 0 0 1 1;start 9 8 2;");
            return x;
        });
        refused(faulty, call("table()", -10 - 38, TinMouse::table));
    }

    /** What a call changes, by the beginnings of the names of what is seen; all else stays. */
    private static void changes(String name, Consumer<TinMouse> call, String... may) {
        TinMouse x = busy();
        call.accept(x);
        Set<String> unlike = Whole.unlike(x, busy());
        CHECKS.due(name + " changed nothing", unlike.isEmpty() ? 1 : 0, 0);
        Set<String> other = new TreeSet<>(unlike);
        for (String begin : may) {
            other.removeIf(seen -> seen.startsWith(begin));
        }
        CHECKS.due(name + " changed " + other, other.size(), 0);
    }

    private static final String[] WAYS = {"round", "covers", "everywhere", "best", "meet"};

    private static String[] and(String[] some, String... more) {
        List<String> all = new ArrayList<>(List.of(some));
        all.addAll(List.of(more));
        return all.toArray(new String[0]);
    }

    private static void changing() {
        changes("type()", x -> x.type(0x20202020, 4), "count 5");
        changes("clear()", TinMouse::clear, "count 5", "text");
        changes("toy(0)", x -> x.toy(0, 2), and(WAYS, "told 2", "starts", "rings", "common", "fits"));
        changes("toy(1)", x -> x.toy(1, 6), and(WAYS, "told 3", "starts", "rings", "common"));
        changes("toy(2)", x -> x.toy(2, 1), and(WAYS, "told 4", "starts", "rings", "common", "safe"));
        changes("go()", x -> x.go(9), and(WAYS, "now", "row"));
        changes("wind()", x -> x.wind(5), "now 3");
        changes("put()", x -> x.put(2, 2, 5), and(WAYS, "now 0", "now 1", "now 2", "row"));
        changes("anew()", TinMouse::anew, and(WAYS, "now", "row"));
        changes("wipe()", TinMouse::wipe, "count 3", "fits");
        changes("drawn()", x -> x.drawn(60), "lot");
        changes("lot()", x -> x.lot(1), "lot");
        changes("rate()", x -> x.rate(3), "trace");
        changes("keep(0)", x -> x.keep(0), "image 0");
        changes("keep(1)", x -> x.keep(1), "image 1");
        changes("back(0)", x -> x.back(0), and(WAYS, "now", "row", "lot"));
        changes("back(1)", x -> x.back(1), and(WAYS, "now", "row", "lot"));
        changes("table()", TinMouse::table, and(WAYS, "told", "cells", "now", "row", "count 0", "count 1", "count 2",
            "count 3", "count 5", "starts", "rings", "common", "safe", "fits", "image", "text"));
        TinMouse x = over();
        x.track(9);
        Set<String> track = Whole.unlike(x, over());
        track.removeIf(seen -> seen.endsWith("count 3") || seen.startsWith("fits"));
        CHECKS.due("track() changed " + track, track.size(), 0);
        TinMouse y = over();
        y.key(5, 60);
        Set<String> key = Whole.unlike(y, over());
        key.removeIf(seen -> seen.endsWith("count 4") || seen.startsWith("law"));
        CHECKS.due("key() changed " + key, key.size(), 0);
    }
}
