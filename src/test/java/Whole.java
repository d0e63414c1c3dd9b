import java.util.LinkedHashMap;
import java.util.Map;
import java.util.Set;
import java.util.TreeSet;

/** All that can be seen of an object, by names. Looking uses the object up: its images and its text are taken. */
final class Whole {
    private final TinMouse x;
    private final Map<String, Long> seen = new LinkedHashMap<>();

    private Whole(TinMouse x) {
        this.x = x;
    }

    static Map<String, Long> of(TinMouse x) {
        Whole whole = new Whole(x);
        whole.see("trace", x.trace());
        whole.seeTable("");
        whole.seeNow("");
        whole.seeCounts("");
        whole.seeWays();
        for (int what = 0; what <= 3; what++) {
            whole.see("law " + what, x.law(3, what));
        }
        whole.see("fits", x.fits(0));
        whole.see("fits first", x.fits(1));
        for (int image = 0; image <= 1; image++) {
            whole.see("image " + image, x.back(image));
            whole.seeNow("image " + image + ": ");
        }
        whole.see("text", x.table());
        whole.seeTable("text: ");
        whole.seeCounts("text: ");
        return whole.seen;
    }

    /** The names of all that is not alike in two objects that were made alike; both are used up. */
    static Set<String> unlike(TinMouse one, TinMouse other) {
        Map<String, Long> first = of(one);
        Map<String, Long> second = of(other);
        Set<String> names = new TreeSet<>();
        for (String name : first.keySet()) {
            if (!first.get(name).equals(second.get(name))) {
                names.add(name);
            }
        }
        return names;
    }

    private void see(String name, long v) {
        seen.put(name, v);
    }

    private void seeTable(String when) {
        for (int what = 0; what <= 8; what++) {
            see(when + "told " + what, x.told(what));
        }
        long cells = 0;
        for (int y = 0; y < 16; y++) {
            for (int column = 0; column < 16; column++) {
                cells = cells * 31 + x.cell(column, y);
            }
        }
        see(when + "cells", cells);
    }

    private void seeNow(String when) {
        for (int what = 0; what <= 9; what++) {
            see(when + "now " + what, x.now(what));
        }
        see(when + "row", rowOf(x));
        int lot = x.lot(0);
        x.lot(lot);
        see(when + "lot", lot);
    }

    /** How many turns are in a row; 0, if there was no turn. */
    static int rowOf(TinMouse x) {
        return x.now(7) == 0 ? 0 : x.rate(4) - x.now(7) - x.told(2);
    }

    private void seeCounts(String when) {
        for (int what = 0; what <= 5; what++) {
            see(when + "count " + what, x.count(what));
        }
    }

    private void seeWays() {
        for (int what = 0; what <= 4; what++) {
            see("round " + what, x.round(what));
            see("starts " + what, x.starts(what));
        }
        see("rings", x.rings(9));
        see("common", x.common());
        see("safe", x.safe());
        see("covers", x.covers(40));
        see("everywhere", x.everywhere());
        see("best", x.best(30));
        see("meet", x.meet(1, 1, 2));
    }
}
