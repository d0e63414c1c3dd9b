/** An object that is asked far longer than it needs to be still answers, and throws nothing. */
public final class LongUseTest {
    private static final int ASKED = 130000;

    public static void main(String[] args) {
        Checks checks = new Checks();
        TinMouse mouse = Checks.told("table 5 3;toy 1 4 0 9;start 2 1 2;bell 2 1;");
        int wrong = 0;
        for (int i = 0; i < ASKED; i++) {
            wrong += mouse.round(1) == 10 && mouse.covers(4) == 3 ? 0 : 1;
            if (i % 1000 == 0) {
                wrong += mouse.starts(4) == 10 && mouse.rings(1) == 16 ? 0 : 1;
            }
        }
        checks.due("wrong answers in " + ASKED, wrong, 0);
        checks.end();
    }
}
