/** Promises 7 to 13: gleaners. */
public final class GleanerTest {
    private static final Due d = new Due();

    public static void main(String[] args) {
        gleaner();
        of();
        set();
        turn();
        as();
        takes();
        lay();
        d.end();
    }

    private static void gleaner() {
        d.promise(7);
        EarRows x = new EarRows();
        d.is("gleaner(5, 7, 4)", x.gleaner(5, 7, 4), 0);
        d.are("gleaner 0", of(x, 0), 5, 7, 0, 4, 0, 0, 0, 0, 0, 1);
        d.is("gleaner(-1, 0, 0)", x.gleaner(-1, 0, 0), Due.BEYOND);
        d.is("gleaner(6, 0, 0)", x.gleaner(6, 0, 0), Due.BEYOND);
        d.is("gleaner(0, -1, 0)", x.gleaner(0, -1, 0), Due.BEYOND);
        d.is("gleaner(0, 8, 0)", x.gleaner(0, 8, 0), Due.BEYOND);
        d.is("gleaner(0, 0, -1)", x.gleaner(0, 0, -1), Due.BEYOND);
        d.is("gleaner(0, 0, 5)", x.gleaner(0, 0, 5), Due.BEYOND);
        for (int g = 1; g < 9; g++) {
            d.is("gleaner(0, 0, 0)", x.gleaner(0, 0, 0), g);
        }
        d.is("a 10th", x.gleaner(0, 0, 0), Due.FULL);
        d.is("a 10th of no kind", x.gleaner(6, 0, 0), Due.BEYOND);
        d.is("count(0)", x.count(0), 9);
    }

    private static long[] of(EarRows x, int gleaner) {
        long[] all = new long[10];
        for (int what = 0; what < 10; what++) {
            all[what] = x.of(gleaner, what);
        }
        return all;
    }

    private static void of() {
        d.promise(8);
        EarRows x = Due.told("left 10; bell 0", "gleaner at 1 place 2 house 3 back; child at 0; quick at 2 place 7",
            "old at 3; sly at 4 house 4; widow at 5");
        d.are("GLEANER", of(x, 0), 0, 1, 2, 3, 0, 0, 1, 0, 6, 1);
        d.are("CHILD", of(x, 1), 1, 0, 0, 0, 0, 0, 0, 0, 1, 1);
        d.are("QUICK", of(x, 2), 2, 2, 7, 0, 0, 0, 0, 0, 3, 2);
        d.are("OLD", of(x, 3), 3, 3, 0, 0, 0, 0, 0, 0, 10, 1);
        d.are("SLY", of(x, 4), 4, 4, 0, 4, 0, 0, 0, 0, 3, 2);
        d.are("WIDOW", of(x, 5), 5, 5, 0, 0, 0, 0, 0, 0, 9, 1);
        x.minutes(1);
        d.are("GLEANER, a minute on", of(x, 0), 0, 1, 1, 3, 6, 0, 1, 0, 6, 1);
        d.are("QUICK, a minute on", of(x, 2), 2, 3, 6, 0, 3, 0, 1, 0, 3, 2);
        d.are("OLD, a minute on", of(x, 3), 3, 3, 1, 0, 10, 0, 0, 0, 10, 0);
        d.are("SLY, a minute on", of(x, 4), 4, 4, 2, 4, 5, 2, 0, 0, 3, 2);
        d.are("WIDOW, a minute on", of(x, 5), 5, 5, 1, 0, 9, 0, 0, 0, 9, 0);
        d.is("of(0, -1)", x.of(0, -1), Due.BEYOND);
        d.is("of(0, 10)", x.of(0, 10), Due.BEYOND);
        d.is("of(6, 0)", x.of(6, 0), Due.BEYOND);
        d.is("of(-1, 0)", x.of(-1, 0), Due.BEYOND);
        EarRows y = Due.told("left 8; bell 0; gleaner at 7 place 7");
        y.minutes(1);
        d.are("one that is DONE", of(y, 0), 0, 7, 7, 0, 5, 0, 0, 1, 2, 1);
        d.is("before the bell", Due.told("left 8; gleaner at 7").of(0, 8), 5);
    }

    private static void set() {
        d.promise(9);
        EarRows x = Due.told("old at 2 place 3 house 4; gleaner at 7 place 7; bell 0");
        d.is("set(0, 1, 7)", x.set(0, 1, 7), 2);
        d.is("set(0, 1, 0)", x.set(0, 1, 0), 7);
        d.is("set(0, 2, 7)", x.set(0, 2, 7), 3);
        d.is("set(0, 3, 0)", x.set(0, 3, 0), 4);
        d.is("set(0, 6, 1)", x.set(0, 6, 1), 0);
        d.is("set(0, 6, 1)", x.set(0, 6, 1), 1);
        d.are("gleaner 0", of(x, 0), 3, 0, 7, 0, 0, 0, 1, 0, 0, 1);
        d.is("set(0, 6, 0)", x.set(0, 6, 0), 1);
        d.is("of(0, 6)", x.of(0, 6), 0);
        int[] wrong = {-1, 0, 4, 5, 7, 8, 9, 10};
        for (int what : wrong) {
            d.is("set(0, " + what + ", 1)", x.set(0, what, 1), Due.BEYOND);
        }
        int[][] beyond = {{1, -1}, {1, 8}, {2, -1}, {2, 8}, {3, -1}, {3, 5}, {6, -1}, {6, 2}};
        for (int[] b : beyond) {
            d.is("set(0, " + b[0] + ", " + b[1] + ")", x.set(0, b[0], b[1]), Due.BEYOND);
        }
        d.is("set(2, 1, 0)", x.set(2, 1, 0), Due.BEYOND);
        d.is("set(-1, 1, 0)", x.set(-1, 1, 0), Due.BEYOND);
        int[] whats = {1, 2, 3, 6};
        for (int what : whats) {
            EarRows y = Due.told("gleaner at 7 place 7; bell 0");
            y.minutes(1);
            d.is("DONE", y.of(0, 7), 1);
            d.is("set refused", y.set(0, what, 9), Due.BEYOND);
            d.is("still DONE", y.of(0, 7), 1);
            y.set(0, what, 1);
            d.is("not DONE behind set(0, " + what + ", 1)", y.of(0, 7), 0);
        }
    }

    private static void turn() {
        d.promise(10);
        EarRows x = Due.told("left 9; quick at 7 place 7 house 2; bell 0");
        x.minutes(1);
        d.is("turn(0, 5)", x.turn(0, 5), 2);
        d.are("as a widow", of(x, 0), 5, 7, 7, 2, 3, 0, 0, 1, 6, 0);
        d.is("turn(0, 5)", x.turn(0, 5), 5);
        d.is("turn(0, 0)", x.turn(0, 0), 5);
        d.is("turn(0, 6)", x.turn(0, 6), Due.BEYOND);
        d.is("turn(0, -1)", x.turn(0, -1), Due.BEYOND);
        d.is("turn(1, 0)", x.turn(1, 0), Due.BEYOND);
        d.is("turn(-1, 0)", x.turn(-1, 0), Due.BEYOND);
        d.is("of(0, 0)", x.of(0, 0), 0);
    }

    private static void as() {
        d.promise(11);
        // A row a kind, a column the kind that it is asked as.
        String[] may = {"1.....", "11....", "1.1...", "1..1..", "1.1.1.", "1..1.1"};
        EarRows x = Due.told("left 30; bell 0");
        int[] bundles = {16, 1, 10, 30, 12, 9};
        for (int kind = 0; kind < 6; kind++) {
            x.gleaner(kind, kind, 0);
        }
        x.minutes(1);
        for (int kind = 0; kind < 6; kind++) {
            for (int as = 0; as < 6; as++) {
                d.is("as(" + kind + ", " + as + ")", x.as(kind, as), may[kind].charAt(as) == '1' ? bundles[kind] : Due.KIND);
            }
        }
        d.is("status(2)", x.status(2), 23);
        d.is("as(6, 0)", x.as(6, 0), Due.BEYOND);
        d.is("as(-1, 0)", x.as(-1, 0), Due.BEYOND);
        d.is("as(0, 6)", x.as(0, 6), Due.BEYOND);
        d.is("as(0, -1)", x.as(0, -1), Due.BEYOND);
    }

    private static void takes() {
        d.promise(12);
        EarRows x = new EarRows();
        int[] n = {0, 1, 2, 3, 8, 9, 10, 99};
        int[][] due = {{0, 1, 2, 2, 5, 5, 6, 50}, {0, 1, 1, 1, 1, 1, 1, 1}, {0, 0, 0, 1, 2, 3, 3, 33},
            {0, 1, 2, 3, 8, 9, 10, 99}, {0, 0, 0, 1, 2, 3, 3, 33}, {0, 1, 2, 3, 8, 9, 9, 9}};
        for (int kind = 0; kind < 6; kind++) {
            for (int i = 0; i < n.length; i++) {
                d.is("takes(" + kind + ", " + n[i] + ")", x.takes(kind, n[i]), due[kind][i]);
            }
            d.is("takes(" + kind + ", -1)", x.takes(kind, -1), Due.BEYOND);
            d.is("takes(" + kind + ", 100)", x.takes(kind, 100), Due.BEYOND);
        }
        d.is("takes(-1, 0)", x.takes(-1, 0), Due.BEYOND);
        d.is("takes(6, 0)", x.takes(6, 0), Due.BEYOND);
    }

    private static void lay() {
        d.promise(13);
        EarRows x = Due.told("left 9; sly at 0; old at 1; bell 0");
        x.minutes(1);
        d.is("of(0, 5)", x.of(0, 5), 2);
        d.is("lay(0)", x.lay(0), 5);
        d.are("gleaner 0", of(x, 0), 4, 0, 2, 0, 0, 0, 0, 0, 3, 2);
        d.is("lay(0)", x.lay(0), 0);
        d.is("of(1, 4)", x.of(1, 4), 9);
        d.is("sheaves", x.now(3), 498);
        d.is("lay(2)", x.lay(2), Due.BEYOND);
        d.is("lay(-1)", x.lay(-1), Due.BEYOND);
    }
}
