/** Promises 1 to 6: a new object, and the field. */
public final class FieldTest {
    private static final Due d = new Due();

    public static void main(String[] args) {
        aNewObject();
        leave();
        ears();
        left();
        rake();
        let();
        d.end();
    }

    private static void aNewObject() {
        d.promise(1);
        EarRows x = new EarRows();
        d.is("status(-1)", x.status(-1), 0);
        d.is("left(-1)", x.left(-1), 0);
        d.is("minute", x.now(0), 0);
        d.is("bell", x.now(1), 10);
        d.is("geese", x.now(2), 9999);
        d.is("sheaves", x.now(3), 500);
        d.is("done", x.now(4), 0);
        for (int what = 0; what < 4; what++) {
            d.is("count(" + what + ")", x.count(what), 0);
        }
        d.is("of(0, 0)", x.of(0, 0), Due.BEYOND);
        d.is("wipe()", x.wipe(), 0);
        d.is("tear()", x.tear(), 0);
        d.is("undo()", x.undo(), Due.NONE);
        for (int s = 0; s < 4; s++) {
            d.is("write(" + s + ", 0, 0)", x.write(s, 0, 0), Due.MISSING);
        }
        EarRows y = new EarRows();
        x.leave(0, 0, 5);
        d.is("another object's ears(0, 0)", y.ears(0, 0), 0);
        d.is("another object's status(-1)", y.status(-1), 0);
    }

    private static void leave() {
        d.promise(2);
        EarRows x = new EarRows();
        d.is("leave(0, 0, 99)", x.leave(0, 0, 99), 0);
        d.is("leave(0, 0, 7)", x.leave(0, 0, 7), 99);
        d.is("leave(7, 7, 3)", x.leave(7, 7, 3), 0);
        d.is("leave(2, 5, 4)", x.leave(2, 5, 4), 0);
        d.is("leave(0, 0, 0)", x.leave(0, 0, 0), 7);
        d.is("leave(2, 5, 4)", x.leave(2, 5, 4), 4);
        int[][] beyond = {{-1, 0, 0}, {8, 0, 0}, {0, -1, 0}, {0, 8, 0}, {0, 0, -1}, {0, 0, 100},
            {Integer.MIN_VALUE, 0, 0}, {0, Integer.MAX_VALUE, 0}};
        for (int[] b : beyond) {
            d.is("leave(" + b[0] + ", " + b[1] + ", " + b[2] + ")", x.leave(b[0], b[1], b[2]), Due.BEYOND);
        }
        d.is("left(-1)", x.left(-1), 7);
        d.is("status(0)", x.status(0), 8);
    }

    private static void ears() {
        d.promise(3);
        EarRows x = Due.told("row 1 ears 1 2 3 4 5 6 7 8; row 6 ears 20");
        for (int place = 0; place < 8; place++) {
            d.is("ears(1, " + place + ")", x.ears(1, place), place + 1);
            d.is("ears(6, " + place + ")", x.ears(6, place), place == 0 ? 20 : 0);
        }
        d.is("ears(-1, 0)", x.ears(-1, 0), Due.BEYOND);
        d.is("ears(8, 0)", x.ears(8, 0), Due.BEYOND);
        d.is("ears(0, -1)", x.ears(0, -1), Due.BEYOND);
        d.is("ears(0, 8)", x.ears(0, 8), Due.BEYOND);
        d.is("ears(1, 8)", x.ears(1, 8), Due.BEYOND);
    }

    private static void left() {
        d.promise(4);
        EarRows x = Due.told("row 0 ears 1 2 3; row 7 ears 0 0 0 0 0 0 0 99; row 3 ears 50 50");
        d.is("left(0)", x.left(0), 6);
        d.is("left(1)", x.left(1), 0);
        d.is("left(3)", x.left(3), 100);
        d.is("left(7)", x.left(7), 99);
        d.is("left(-1)", x.left(-1), 205);
        d.is("left(-2)", x.left(-2), Due.BEYOND);
        d.is("left(8)", x.left(8), Due.BEYOND);
        d.is("left(-1) of a full field", Due.told("left 99").left(-1), 6336);
    }

    private static void rake() {
        d.promise(5);
        EarRows x = Due.told("left 3; row 2 ears 9 9");
        d.is("rake(2)", x.rake(2), 36);
        d.is("left(2)", x.left(2), 0);
        d.is("rake(2)", x.rake(2), 0);
        d.is("left(-1)", x.left(-1), 168);
        d.is("rake(0)", x.rake(0), 24);
        d.is("rake(7)", x.rake(7), 24);
        d.is("rake(-1)", x.rake(-1), Due.BEYOND);
        d.is("rake(8)", x.rake(8), Due.BEYOND);
        d.is("left(-1)", x.left(-1), 120);
    }

    private static void let() {
        d.promise(6);
        EarRows x = new EarRows();
        d.is("let(0, 0)", x.let(0, 0), 10);
        d.is("let(0, 999)", x.let(0, 999), 0);
        d.is("let(0, 1000)", x.let(0, 1000), Due.BEYOND);
        d.is("let(0, -1)", x.let(0, -1), Due.BEYOND);
        d.is("let(1, 0)", x.let(1, 0), 9999);
        d.is("let(1, 9999)", x.let(1, 9999), 0);
        d.is("let(1, 1000)", x.let(1, 1000), 9999);
        d.is("let(1, 10000)", x.let(1, 10000), Due.BEYOND);
        d.is("let(1, -1)", x.let(1, -1), Due.BEYOND);
        d.is("let(2, 9999)", x.let(2, 9999), 500);
        d.is("let(2, 0)", x.let(2, 0), 9999);
        d.is("let(2, 10000)", x.let(2, 10000), Due.BEYOND);
        d.is("let(2, -1)", x.let(2, -1), Due.BEYOND);
        d.is("let(3, 0)", x.let(3, 0), Due.BEYOND);
        d.is("let(-1, 0)", x.let(-1, 0), Due.BEYOND);
        d.is("bell", x.now(1), 999);
        d.is("geese", x.now(2), 1000);
        d.is("sheaves", x.now(3), 0);
    }
}
