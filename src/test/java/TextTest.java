/** Promises 36 to 38: the tape and the text of a field. */
public final class TextTest {
    private static final Due d = new Due();

    public static void main(String[] args) {
        feed();
        wipe();
        items();
        gleaners();
        faults();
        tenth();
        aFaultChangesNothing();
        d.end();
    }

    private static void feed() {
        d.promise(36);
        EarRows x = new EarRows();
        d.is("feed(.., 0)", x.feed(0x6c656674, 0), Due.BEYOND);
        d.is("feed(.., 5)", x.feed(0x6c656674, 5), Due.BEYOND);
        d.is("feed(.., -1)", x.feed(0x6c656674, -1), Due.BEYOND);
        d.is("count(1)", x.count(1), 0);
        d.is("feed(lef, 3)", x.feed(0x7f6c6566, 3), 3);
        d.is("feed(t, 1)", x.feed(0xffffff74, 1), 4);
        d.is("feed( 7, 2)", x.feed(0x30302037, 2), 6);
        d.is("text()", x.text(), 1);
        d.is("left(-1)", x.left(-1), 448);
        for (int i = 1; i <= 29; i++) {
            d.is("feed(.., 4)", x.feed(0x20202020, 4), 4 * i);
        }
        d.is("feed(.., 1)", x.feed(0x20, 1), 117);
        d.is("feed(.., 4), to 121", x.feed(0x20202020, 4), Due.FULL);
        d.is("feed(.., 5)", x.feed(0x20202020, 5), Due.BEYOND);
        d.is("feed(.., 3), to 120", x.feed(0x20202020, 3), 120);
        d.is("feed(.., 1), to 121", x.feed(0x20, 1), Due.FULL);
        d.is("count(1)", x.count(1), 120);
        d.is("text() of 120 blanks", x.text(), -121);
    }

    private static void wipe() {
        d.promise(37);
        EarRows x = new EarRows();
        x.feed(0x78, 1);
        x.feed(0x7878, 2);
        d.is("wipe()", x.wipe(), 3);
        d.is("wipe()", x.wipe(), 0);
        d.is("count(1)", x.count(1), 0);
        d.is("text()", Due.text(x, "bell 3"), 1);
    }

    private static void items() {
        d.promise(38);
        EarRows x = new EarRows();
        d.is("left", Due.text(x, "left 2"), 1);
        d.is("left(-1)", x.left(-1), 128);
        d.is("the tape is empty", x.count(1), 0);
        d.is("row", Due.text(x, "row 7 ears 9"), 1);
        d.is("ears(7, 0)", x.ears(7, 0), 9);
        d.is("the others stay", x.ears(7, 1), 2);
        d.is("row of eight", Due.text(x, "row 0 ears 0 1 2 3 4 5 6 99"), 1);
        d.is("ears(0, 0)", x.ears(0, 0), 0);
        d.is("ears(0, 6)", x.ears(0, 6), 6);
        d.is("ears(0, 7)", x.ears(0, 7), 99);
        d.is("without blanks", Due.text(x, "row3ears1 2;bell0;geese9999;sheaves9999"), 4);
        d.is("ears(3, 1)", x.ears(3, 1), 2);
        d.is("bell", x.now(1), 0);
        d.is("geese", x.now(2), 9999);
        d.is("sheaves", x.now(3), 9999);
        d.is("with many", Due.text(x, "   bell   999  ;   geese 0;sheaves   0   "), 3);
        d.is("bell", x.now(1), 999);
        d.is("geese", x.now(2), 0);
        d.is("sheaves", x.now(3), 0);
        d.is("one behind the other", Due.text(x, "row 1 ears 5; left 3; row 2 ears 6; bell 4; bell 5"), 5);
        d.is("left(1)", x.left(1), 24);
        d.is("left(2)", x.left(2), 27);
        d.is("bell", x.now(1), 5);
        d.is("zeros ahead", Due.text(x, "bell 000000000000000000000000000000007"), 1);
        d.is("bell", x.now(1), 7);
        d.is("no finding", x.status(-1), 0);
    }

    private static void gleaners() {
        d.promise(38);
        EarRows x = new EarRows();
        d.is("all kinds", Due.text(x, "gleaner at 0;child at 1;quick at 2;old at 3;sly at 4;widow at 7"), 6);
        for (int kind = 0; kind < 6; kind++) {
            d.is("kind", x.of(kind, 0), kind);
            d.is("row", x.of(kind, 1), kind == 5 ? 7 : kind);
            d.is("place", x.of(kind, 2), 0);
            d.is("house", x.of(kind, 3), 0);
            d.is("back", x.of(kind, 6), 0);
        }
        d.is("with all", Due.text(x, "old at 1 place 7 house 4 back"), 1);
        d.is("with some", Due.text(x, "old at 2 house 3; sly at 3 place 2 back"), 2);
        long[][] due = {{3, 1, 7, 4, 0, 0, 1, 0}, {3, 2, 0, 3, 0, 0, 0, 0}, {4, 3, 2, 0, 0, 0, 1, 0}};
        for (int g = 0; g < 3; g++) {
            for (int what = 0; what < 8; what++) {
                d.is("of(" + (g + 6) + ", " + what + ")", x.of(g + 6, what), due[g][what]);
            }
        }
    }

    private static void faults() {
        d.promise(38);
        fault("", 0);
        fault("  ", 2);
        fault(";", 0);
        fault("7", 0);
        fault(" ears 1", 1);
        fault("Left 1", 0);
        fault("left", 4);
        fault("left ", 5);
        fault("left 100", 5);
        fault("left 10000", 5);
        fault("left 4294967297", 5);
        fault("left 18446744073709551617", 5);
        fault("left -1", 5);
        fault("left 1;", 7);
        fault("left 1; ", 8);
        fault("left 1;;left 2", 7);
        fault("left 1 2", 7);
        fault("left 1x", 6);
        fault("left 1 left 2", 7);
        fault("lefts 1", 0);
        fault("lef 1", 0);
        fault("xeft 1", 0);
        fault("leftz 1", 0);
        fault("lefta 1", 0);
        fault("left`1", 4);
        fault("left{1", 4);
        fault("left/1", 4);
        fault("left:1", 4);
        fault("left 1 ; old at 0 backz", 18);
        fault("left\t1", 4);
        fault("left 1\n", 6);
        fault("left 1.", 6);
        fault("left 1\u00e1", 6);
        fault("left 1\u00ff", 6);
        fault("left 1\u0000", 6);
        fault("\u0000", 0);
        fault("row", 3);
        fault("row x", 4);
        fault("row 8 ears 1", 4);
        fault("row 1", 5);
        fault("row 1 2 ears 3", 6);
        fault("row 1 bell 3", 6);
        fault("row 1 ears", 10);
        fault("row 1 ears;", 10);
        fault("row 1 ears 100", 11);
        fault("row 1 ears 1 100", 13);
        fault("row 1 ears 1 2 3 4 5 6 7 8 9", 27);
        fault("row 1 ears 1 x", 13);
        fault("bell 1000", 5);
        fault("bell x", 5);
        fault("bell", 4);
        fault("geese 10000", 6);
        fault("geese", 5);
        fault("sheaves 10000", 8);
        fault("sheaves ;", 8);
        fault("bell 1; sheaves 12345", 16);
        fault("old", 3);
        fault("old 3", 4);
        fault("old at", 6);
        fault("old at x", 7);
        fault("old at 8", 7);
        fault("old at 1 place", 14);
        fault("old at 1 place 8", 15);
        fault("old at 1 house 5", 15);
        fault("old at 1 house", 14);
        fault("old at 1 house 1 place 1", 17);
        fault("old at 1 place 1 place 1", 17);
        fault("old at 1 back back", 14);
        fault("old at 1 back place 1", 14);
        fault("old at 1 2", 9);
        fault("older at 1", 0);
        fault("at 1", 0);
        fault("back", 0);
    }

    private static void fault(String text, int place) {
        EarRows x = Due.told("left 5");
        d.is("'" + text + "'", Due.text(x, text), -1 - place);
        d.is("the tape behind '" + text + "'", x.count(1), 0);
        d.is("left(-1) behind '" + text + "'", x.left(-1), 320);
        d.is("gleaners behind '" + text + "'", x.count(0), 0);
        d.is("status(-1) behind '" + text + "'", x.status(-1), 0);
    }

    private static void tenth() {
        d.promise(38);
        String nine = "old at 0;old at 1;old at 2;old at 3;old at 4;old at 5;old at 6;old at 7;sly at 0";
        EarRows x = new EarRows();
        d.is("ten in one text", Due.text(x, nine + " ; sly at 1"), -1 - (nine.length() + 3));
        d.is("count(0)", x.count(0), 0);
        d.is("nine", Due.text(x, nine), 9);
        d.is("a 10th in another", Due.text(x, "bell 3; sly at 9"), -9);
        d.is("bell", x.now(1), 10);
        d.is("without one", Due.text(x, "bell 3"), 1);
    }

    private static void aFaultChangesNothing() {
        d.promise(38);
        EarRows x = Due.told("left 7; old at 3 place 2; bell 1; geese 60; sheaves 70");
        x.minutes(4);
        long[] before = Due.all(x);
        d.is("a fault at the end", Due.text(x, "left 1; row 3 ears 9 9; sly at 5; bell 2; geese 3; sheaves 4; x"), -63);
        d.are("all, behind a fault", Due.all(x), before);
    }
}
