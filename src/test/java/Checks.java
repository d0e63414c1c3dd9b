import java.util.function.IntUnaryOperator;

/** Counts answers that are not as due, and types texts. */
final class Checks {
    private int asked;
    private int wrong;

    void due(String call, long got, long want) {
        asked++;
        if (got != want) {
            wrong++;
            System.out.println(call + " answered " + got + ", due is " + want);
        }
    }

    /** A number of a call: its least and its most are taken; one less, one more and those far off are refused. */
    void range(String call, IntUnaryOperator ask, int least, int most, int refusal) {
        for (int v : new int[] {least, most}) {
            due(call + " takes " + v, ask.applyAsInt(v) == refusal ? 1 : 0, 0);
        }
        int[] off = {least - 1, most + 1, -least - 1000, most + 256, most + 65536, Integer.MIN_VALUE,
            Integer.MIN_VALUE + 1, Integer.MAX_VALUE};
        for (int v : off) {
            due(call + " of " + v, ask.applyAsInt(v), refusal);
        }
    }

    /** Ends the test: exit code 1 if an answer was not as due, or if nothing was asked. */
    void end() {
        System.out.println(asked + " answers, " + wrong + " not as due");
        if (wrong > 0 || asked == 0) {
            System.exit(1);
        }
    }

    /** Types a text of bytes 0 .. 255, eight at a time; the answer to the last call. */
    static int typeText(TinMouse mouse, String text) {
        int answer = 0;
        for (int i = 0; i < text.length(); i += 8) {
            String part = text.substring(i, Math.min(text.length(), i + 8));
            answer = mouse.type(packed(part), part.length());
        }
        return answer;
    }

    static long packed(String part) {
        long v = 0;
        for (char c : part.toCharArray()) {
            v = v << 8 | c;
        }
        return v;
    }

    /** The answer of table() to a text on a new object. */
    static int tableOf(String text) {
        TinMouse mouse = new TinMouse();
        typeText(mouse, text);
        return mouse.table();
    }

    /** A new object with a table as a text tells it. */
    static TinMouse told(String text) {
        TinMouse mouse = new TinMouse();
        typeText(mouse, text);
        if (mouse.table() < 0) {
            throw new IllegalArgumentException("a test's own text is faulty: " + text);
        }
        return mouse;
    }
}
