/** Promises 39 to 44: sheets. */
public final class SheetTest {
    private static final Due d = new Due();

    public static void main(String[] args) {
        sheet();
        write();
        copy();
        lays();
        book();
        read();
        refusedAsBook();
        d.end();
    }

    private static void sheet() {
        d.promise(39);
        EarRows x = new EarRows();
        d.is("sheet(0, 8, 40)", x.sheet(0, 8, 40), 40);
        d.is("sheet(1, 16, 0)", x.sheet(1, 16, 0), 0);
        d.is("sheet(3, 64, 2)", x.sheet(3, 64, 2), 2);
        d.is("a sheet of 0 isn't MISSING", x.write(1, 0, 0), Due.BEYOND);
        x.write(3, 1, 77);
        d.is("sheet(3, 64, 3)", x.sheet(3, 64, 3), 3);
        d.is("all are 0", x.write(3, 1, 5), 0);
        d.is("sheet(3, 0, 7)", x.sheet(3, 0, 7), 0);
        d.is("it is MISSING", x.write(3, 1, 0), Due.MISSING);
        d.is("sheet(-1, 8, 1)", x.sheet(-1, 8, 1), Due.BEYOND);
        d.is("sheet(4, 8, 1)", x.sheet(4, 8, 1), Due.BEYOND);
        int[] others = {-8, 1, 7, 32, 63, 128};
        for (int bits : others) {
            d.is("sheet(0, " + bits + ", 1)", x.sheet(0, bits, 1), Due.BEYOND);
        }
        d.is("sheet(0, 32, -1)", x.sheet(0, 32, -1), Due.BEYOND);
        d.is("sheet(0, 8, -1)", x.sheet(0, 8, -1), Due.SIZE);
        d.is("sheet(0, 0, -1)", x.sheet(0, 0, -1), Due.SIZE);
        d.is("sheet(0, 0, 41)", x.sheet(0, 0, 41), Due.BEYOND);
        d.is("sheet(0, 8, 41)", x.sheet(0, 8, 41), Due.BEYOND);
        d.is("sheet(0, 8, MAX)", x.sheet(0, 8, Integer.MAX_VALUE), Due.BEYOND);
        d.is("sheet(0, 8, MIN)", x.sheet(0, 8, Integer.MIN_VALUE), Due.SIZE);
        d.is("sheet 0 is as it was", x.write(0, 39, 1), 0);
        d.is("sheet(0, 0, 0)", x.sheet(0, 0, 0), 0);
        d.is("it is MISSING", x.write(0, 0, 0), Due.MISSING);
    }

    private static void write() {
        d.promise(40);
        EarRows x = new EarRows();
        x.sheet(0, 8, 3);
        x.sheet(1, 16, 3);
        x.sheet(2, 64, 3);
        long[] v = {1, 127, 128, 255, 256, -1, -129, 32767, 32768, 65535, 65536, -32769, 1L << 40, Long.MIN_VALUE, Long.MAX_VALUE};
        for (long n : v) {
            x.write(0, 0, n);
            x.write(1, 1, n);
            x.write(2, 2, n);
            d.is("8 bits of " + n, x.write(0, 0, 0), (byte) n);
            d.is("16 bits of " + n, x.write(1, 1, 0), (short) n);
            d.is("64 bits of " + n, x.write(2, 2, 0), n);
        }
        d.is("write(0, 0, 5)", x.write(0, 0, 5), 0);
        d.is("write(0, 0, 6)", x.write(0, 0, 6), 5);
        d.is("write(0, 1, 6)", x.write(0, 1, 6), 0);
        d.is("write(0, 3, 0)", x.write(0, 3, 0), Due.BEYOND);
        d.is("write(0, -1, 0)", x.write(0, -1, 0), Due.BEYOND);
        d.is("write(3, -1, 0)", x.write(3, -1, 0), Due.MISSING);
        d.is("write(4, 0, 0)", x.write(4, 0, 0), Due.BEYOND);
        d.is("write(-1, 0, 0)", x.write(-1, 0, 0), Due.BEYOND);
        d.is("status(5)", x.status(5), 1);
        d.is("status(0)", x.status(0), 4);
    }

    private static EarRows numbered() {
        EarRows x = new EarRows();
        x.sheet(0, 16, 6);
        x.sheet(1, 16, 4);
        x.sheet(2, 8, 6);
        for (int i = 0; i < 6; i++) {
            x.write(0, i, i + 1);
        }
        return x;
    }

    private static void sheetIs(String call, EarRows x, int s, long... due) {
        for (int i = 0; i < due.length; i++) {
            d.is(call + ": number " + i, x.write(s, i, due[i]), due[i]);
        }
    }

    private static void copy() {
        d.promise(41);
        EarRows x = numbered();
        d.is("copy(0, 1, 1, 2, 2)", x.copy(0, 1, 1, 2, 2), 2);
        sheetIs("copy", x, 1, 0, 0, 2, 3);
        d.is("copy(0, 0, 0, 2, 4), onward over itself", x.copy(0, 0, 0, 2, 4), 4);
        sheetIs("copy onward", x, 0, 1, 2, 1, 2, 3, 4);
        x = numbered();
        d.is("copy(0, 2, 0, 0, 4), back over itself", x.copy(0, 2, 0, 0, 4), 4);
        sheetIs("copy back", x, 0, 3, 4, 5, 6, 5, 6);
        d.is("copy(0, 6, 1, 4, 0)", x.copy(0, 6, 1, 4, 0), 0);
        d.is("copy(0, 0, 1, 0, 4)", x.copy(0, 0, 1, 0, 4), 4);
        d.is("copy(0, 0, 1, 0, 5)", x.copy(0, 0, 1, 0, 5), Due.BEYOND);
        d.is("copy(1, 0, 0, 0, 5)", x.copy(1, 0, 0, 0, 5), Due.BEYOND);
        d.is("copy(0, 7, 1, 0, 0)", x.copy(0, 7, 1, 0, 0), Due.BEYOND);
        d.is("copy(0, 0, 1, 5, 0)", x.copy(0, 0, 1, 5, 0), Due.BEYOND);
        d.is("copy(0, -1, 1, 0, 1)", x.copy(0, -1, 1, 0, 1), Due.BEYOND);
        d.is("copy(0, 0, 1, -1, 1)", x.copy(0, 0, 1, -1, 1), Due.BEYOND);
        d.is("copy(0, 0, 1, 0, -1)", x.copy(0, 0, 1, 0, -1), Due.BEYOND);
        d.is("copy(0, 1, 1, 0, MAX)", x.copy(0, 1, 1, 0, Integer.MAX_VALUE), Due.BEYOND);
        d.is("copy(0, MAX, 1, 0, 1)", x.copy(0, Integer.MAX_VALUE, 1, 0, 1), Due.BEYOND);
        d.is("copy(0, 0, 2, 0, -1), of other bits", x.copy(0, 0, 2, 0, -1), Due.KIND);
        d.is("copy(2, 0, 0, 0, 0), of other bits", x.copy(2, 0, 0, 0, 0), Due.KIND);
        d.is("copy(0, 0, 3, 0, 0)", x.copy(0, 0, 3, 0, 0), Due.MISSING);
        d.is("copy(3, 0, 0, 0, 0)", x.copy(3, 0, 0, 0, 0), Due.MISSING);
        d.is("copy(3, 0, 4, 0, 0)", x.copy(3, 0, 4, 0, 0), Due.BEYOND);
        d.is("copy(-1, 0, 3, 0, 0)", x.copy(-1, 0, 3, 0, 0), Due.BEYOND);
        sheetIs("copy refused", x, 1, 3, 4, 5, 6);
    }

    private static void lays() {
        d.promise(42);
        EarRows x = Due.told("left 1");
        x.sheet(0, 16, 12);
        long[] v = {0, 99, 100, -1, 5, 6, 7, 8, 9, 1000, 11, 12};
        for (int i = 0; i < v.length; i++) {
            x.write(0, i, v[i]);
        }
        d.is("lays(0, 2)", x.lays(0, 2), 9);
        long[] due = {0, 99, 1, 1, 5, 6, 7, 8, 9, 1, 11, 12, 1, 1, 1, 1};
        for (int i = 0; i < 16; i++) {
            d.is("place " + i, x.ears(2 + i / 8, i % 8), due[i]);
        }
        d.is("left(1)", x.left(1), 8);
        d.is("left(4)", x.left(4), 8);
        d.is("lays(0, 7): no row behind it", x.lays(0, 7), 6);
        d.is("left(7)", x.left(7), 127);
        d.is("left(0)", x.left(0), 8);
        x.sheet(1, 8, 3);
        x.write(1, 0, 200);
        x.write(1, 1, 256 + 40);
        d.is("lays(1, 0), of 8 bits", x.lays(1, 0), 2);
        d.is("ears(0, 0)", x.ears(0, 0), 1);
        d.is("ears(0, 1)", x.ears(0, 1), 40);
        x.sheet(2, 64, 1);
        x.write(2, 0, (1L << 32) + 5);
        d.is("lays(2, 0), of 64 bits", x.lays(2, 0), 0);
        x.sheet(2, 64, 0);
        d.is("lays(2, 0), of none", x.lays(2, 0), 0);
        d.is("lays(3, 9)", x.lays(3, 9), Due.MISSING);
        d.is("lays(4, 0)", x.lays(4, 0), Due.BEYOND);
        d.is("lays(-1, 0)", x.lays(-1, 0), Due.BEYOND);
        d.is("lays(0, 8)", x.lays(0, 8), Due.BEYOND);
        d.is("lays(0, -1)", x.lays(0, -1), Due.BEYOND);
    }

    /** Bundles on 2, 3, 4 minutes: 180 41 2, 180 41 3, 270 42 4. */
    private static EarRows three() {
        return Due.told("bell 0; left 1; row 0 ears 90 90 90 90 90 90 90 90; row 7 ears 40", "old at 0; old at 7; child at 3");
    }

    private static void book() {
        d.promise(43);
        EarRows x = three();
        x.sheet(0, 16, 5);
        x.write(0, 3, 7);
        d.is("book(0, 0)", x.book(0, 0), 3);
        sheetIs("book(0, 0)", x, 0, 0, 0, 0, 7, 0);
        d.is("book(0, 3)", x.book(0, 3), 3);
        sheetIs("book(0, 3)", x, 0, 180, 41, 3, 7, 0);
        x.sheet(1, 8, 2);
        d.is("book(1, 3), as far as it has numbers", x.book(1, 3), 2);
        sheetIs("book(1, 3), lowest bits", x, 1, (byte) 180, 41);
        x.sheet(2, 64, 0);
        d.is("book(2, 4)", x.book(2, 4), 0);
        x.sheet(2, 64, 40);
        d.is("book(2, 200)", x.book(2, 200), 3);
        EarRows nobody = new EarRows();
        nobody.sheet(0, 8, 4);
        d.is("book(0, 1), with nobody", nobody.book(0, 1), 0);
    }

    private static void read() {
        d.promise(44);
        EarRows x = three();
        x.sheet(0, 16, 3);
        x.book(0, 3);
        d.is("read(0, 3)", x.read(0, 3), 0);
        d.is("read(0, 2): the child has less", x.read(0, 2), 3);
        d.is("read(0, 4): all have more", x.read(0, 4), 1);
        x.write(0, 1, 40);
        d.is("read(0, 3)", x.read(0, 3), 2);
        x.sheet(1, 8, 3);
        x.book(1, 3);
        d.is("read(1, 3), lowest bits", x.read(1, 3), 0);
        x.sheet(2, 64, 2);
        x.book(2, 3);
        d.is("read(2, 3): a third must come", x.read(2, 3), 3);
        x.write(2, 1, 0);
        d.is("read(2, 3): the second isn't", x.read(2, 3), 2);
        x.sheet(2, 64, 0);
        d.is("read(2, 3): all must come", x.read(2, 3), 1);
        x.sheet(2, 64, 4);
        x.book(2, 3);
        d.is("read(2, 3): a fourth number, though 0, is of nobody", x.read(2, 3), 4);
        x.write(2, 3, 5);
        d.is("read(2, 3): a fourth number is of nobody", x.read(2, 3), 4);
        x.write(2, 2, -1);
        d.is("read(2, 3): the third isn't, ahead of the fourth", x.read(2, 3), 3);
        x.sheet(2, 64, 40);
        x.book(2, 3);
        d.is("read(2, 3): of many numbers too many the first", x.read(2, 3), 4);
        x.gleaner(0, 7, 0);
        d.is("read(2, 0): nobody has what is written", x.read(2, 0), 1);
        x.book(2, 3);
        d.is("read(2, 3): a fourth came", x.read(2, 3), 5);
        EarRows idle = Due.told("old at 0; old at 0");
        idle.sheet(0, 8, 1);
        d.is("read(0, 1): a second must come, though it has nothing", idle.read(0, 1), 2);
        EarRows nobody = new EarRows();
        nobody.sheet(0, 8, 0);
        d.is("read(0, 1), with nobody", nobody.read(0, 1), 0);
        nobody.sheet(0, 16, 1);
        d.is("read(0, 1), with nobody, a number", nobody.read(0, 1), 1);
        nobody.sheet(0, 64, 40);
        d.is("read(0, 0), with nobody, 40 numbers", nobody.read(0, 0), 1);
        EarRows full = Due.told("left 9; bell 0; old at 0; old at 1; old at 2; old at 3; old at 4; old at 5; old at 6; old at 7");
        full.gleaner(5, 0, 0);
        full.sheet(0, 8, 9);
        full.book(0, 4);
        d.is("read(0, 4), nine", full.read(0, 4), 0);
        full.sheet(1, 8, 10);
        full.copy(0, 0, 1, 0, 9);
        d.is("read(1, 4), a tenth number", full.read(1, 4), 10);
    }

    private static void refusedAsBook() {
        EarRows x = OnTest.lateBy(1);
        x.sheet(0, 16, 2);
        d.promise(43);
        d.is("book(-1, 0)", x.book(-1, 0), Due.BEYOND);
        d.is("book(4, 0)", x.book(4, 0), Due.BEYOND);
        d.is("book(1, 201)", x.book(1, 201), Due.MISSING);
        d.is("book(0, 201)", x.book(0, 201), Due.BEYOND);
        d.is("book(0, -1)", x.book(0, -1), Due.BEYOND);
        d.is("book(0, 200)", x.book(0, 200), Due.STATE);
        d.is("book(0, 199)", x.book(0, 199), 2);
        d.promise(44);
        d.is("read(-1, 0)", x.read(-1, 0), Due.BEYOND);
        d.is("read(4, 0)", x.read(4, 0), Due.BEYOND);
        d.is("read(1, 201)", x.read(1, 201), Due.MISSING);
        d.is("read(0, 201)", x.read(0, 201), Due.BEYOND);
        d.is("read(0, -1)", x.read(0, -1), Due.BEYOND);
        d.is("read(0, 200)", x.read(0, 200), Due.STATE);
        d.is("read(0, 199)", x.read(0, 199), 0);
    }
}
