/** The edges of promises 39 to 44: sheets. */
public final class SheetEdgeTest {
    private static final String LOWEST_BITS = "(its lowest bits)";
    private static final Edges e = new Edges();

    public static void main(String[] args) {
        sheet();
        sheetRefused();
        write();
        writeRefused();
        copy();
        copyRefused();
        lays();
        book();
        read();
        refusedAsBook();
        e.end(39, 44);
    }

    private static void sheet() {
        int[] all = {8, 16, 64};
        for (int bits : all) {
            e.edge(39, "A sheet has n numbers, all 0, of 8, 16 or 64 bits",
                "sheet(0, " + bits + ", 0) 0", "write(0, 0, 1) BEYOND", "sheet(0, " + bits + ", 1) 1", "write(0, 0, 5) 0", "write(0, 1, 5) BEYOND",
                "sheet(0, " + bits + ", 40) 40", "write(0, 0, 6) 0", "write(0, 39, 7) 0", "write(0, 40, 5) BEYOND",
                "sheet(0, " + bits + ", 40) 40", "write(0, 0, 0) 0", "write(0, 39, 0) 0");
        }
        e.edge(39, "bits 0: it is MISSING: n (0 if it is MISSING)", "sheet(1, 8, 3) 3", "write(1, 2, 5) 0", "sheet(1, 0, 40) 0", "write(1, 2, 0) MISSING",
            "sheet(1, 0, 0) 0", "sheet(1, 0, 1) 0", "write(1, 0, 0) MISSING", "sheet(1, 8, 3) 3", "write(1, 2, 0) 0");
        e.edge(39, "A sheet has n numbers", "sheet(0, 8, 1) 1", "sheet(3, 64, 2) 2", "write(0, 0, 5) 0", "write(3, 1, 6) 0", "sheet(1, 8, 1) 1",
            "write(0, 0, 5) 5", "write(3, 1, 6) 6", "write(2, 0, 0) MISSING");
    }

    private static void sheetRefused() {
        e.edge(39, "BEYOND: no such sheet, other bits.", "sheet(0, 8, 2) 2", "write(0, 1, 5) 0",
            "sheet(-1, 8, 1) BEYOND", "sheet(4, 8, 1) BEYOND", "sheet(MIN, 8, 1) BEYOND", "sheet(MAX, 8, 1) BEYOND",
            "sheet(0, -1, 1) BEYOND", "sheet(0, 1, 1) BEYOND", "sheet(0, 7, 1) BEYOND", "sheet(0, 9, 1) BEYOND", "sheet(0, 15, 1) BEYOND", "sheet(0, 17, 1) BEYOND",
            "sheet(0, 32, 1) BEYOND", "sheet(0, 63, 1) BEYOND", "sheet(0, 65, 1) BEYOND", "sheet(0, -8, 1) BEYOND", "sheet(0, MIN, 1) BEYOND", "sheet(0, MAX, 1) BEYOND",
            "sheet(4, 8, -1) BEYOND", "sheet(0, 32, -1) BEYOND", "write(0, 1, 5) 5");
        e.edge(39, "SIZE: n is below 0 (also with bits 0).", "sheet(0, 8, 2) 2", "write(0, 1, 5) 0",
            "sheet(0, 8, -1) SIZE", "sheet(0, 16, MIN) SIZE", "sheet(0, 64, -1) SIZE", "sheet(0, 0, -1) SIZE", "sheet(0, 0, MIN) SIZE", "sheet(1, 8, -1) SIZE",
            "write(0, 1, 5) 5", "write(1, 0, 0) MISSING");
        e.edge(39, "BEYOND: n is above 40 (also with bits 0).", "sheet(0, 8, 2) 2", "write(0, 1, 5) 0",
            "sheet(0, 8, 41) BEYOND", "sheet(0, 16, 41) BEYOND", "sheet(0, 64, MAX) BEYOND", "sheet(0, 0, 41) BEYOND", "sheet(0, 0, MAX) BEYOND",
            "sheet(1, 8, 41) BEYOND", "write(0, 1, 5) 5", "write(1, 0, 0) MISSING");
    }

    private static void write() {
        e.edge(40, LOWEST_BITS, "sheet(0, 8, 1) 1", "write(0, 0, 127) 0", "write(0, 0, 128) 127", "write(0, 0, 255) -128", "write(0, 0, 256) -1",
            "write(0, 0, 257) 0", "write(0, 0, -128) 1", "write(0, 0, -129) -128", "write(0, 0, LONGMAX) 127", "write(0, 0, LONGMIN) -1", "write(0, 0, 0) 0");
        e.edge(40, LOWEST_BITS, "sheet(0, 16, 1) 1", "write(0, 0, 255) 0", "write(0, 0, 32767) 255", "write(0, 0, 32768) 32767", "write(0, 0, 65535) -32768",
            "write(0, 0, 65536) -1", "write(0, 0, 65537) 0", "write(0, 0, -32768) 1", "write(0, 0, -32769) -32768", "write(0, 0, LONGMAX) 32767",
            "write(0, 0, LONGMIN) -1", "write(0, 0, 0) 0");
        e.edge(40, LOWEST_BITS, "sheet(0, 64, 1) 1", "write(0, 0, 65536) 0", "write(0, 0, 4294967296) 65536", "write(0, 0, LONGMAX) 4294967296",
            "write(0, 0, LONGMIN) LONGMAX", "write(0, 0, -1) LONGMIN", "write(0, 0, 0) -1");
        e.edge(40, "what it was", "sheet(0, 64, 2) 2", "write(0, 0, -1000000001) 0", "write(0, 1, -1000000007) 0", "write(0, 0, 5) number -1000000001",
            "write(0, 1, 6) number -1000000007", "status(-1) 0", "write(0, 0, 0) 5", "write(0, 1, 0) 6");
        e.edge(40, "Number i of a sheet becomes v (its lowest bits): what it was.", "sheet(3, 16, 40) 40", "write(3, 0, 1) 0", "write(3, 39, 2) 0", "write(3, 0, 3) 1",
            "write(3, 39, 4) 2", "write(3, 1, 0) 0", "write(3, 38, 0) 0");
    }

    private static void writeRefused() {
        e.edge(40, "BEYOND: no such sheet.", "write(-1, 0, 1) BEYOND", "write(4, 0, 1) BEYOND", "write(MIN, 0, 1) BEYOND", "write(MAX, 0, 1) BEYOND",
            "write(4, -1, 1) BEYOND");
        e.edge(40, "MISSING.", "write(0, 0, 1) MISSING", "write(3, 0, 1) MISSING", "write(0, -1, 1) MISSING", "write(0, 40, 1) MISSING", "write(4, 0, 1) BEYOND");
        e.edge(40, "BEYOND: no such number.", "sheet(0, 8, 3) 3", "write(0, -1, 1) BEYOND", "write(0, 3, 1) BEYOND", "write(0, 39, 1) BEYOND", "write(0, 40, 1) BEYOND",
            "write(0, MIN, 1) BEYOND", "write(0, MAX, 1) BEYOND", "sheet(0, 8, 0) 0", "write(0, 0, 1) BEYOND", "sheet(0, 8, 40) 40", "write(0, 40, 1) BEYOND");
    }

    private static void copy() {
        String words = "n numbers of a sheet from one on come to another one from one on (as they all were): n.";
        String[] one = {"sheet(0, 16, 4) 4", "write(0, 0, 1) 0", "write(0, 1, 2) 0", "write(0, 2, 3) 0", "write(0, 3, 4) 0", "sheet(1, 16, 3) 3"};
        e.edge(40, "what it was", one);
        e.edge(41, words, Edges.with(one, "copy(0, 1, 1, 0, 3) 3", "write(1, 0, 0) 2", "write(1, 1, 0) 3", "write(1, 2, 0) 4", "write(0, 0, 0) 1", "write(0, 3, 0) 4"));
        e.edge(41, words, Edges.with(one, "copy(0, 3, 1, 2, 1) 1", "write(1, 2, 0) 4", "write(1, 1, 0) 0"));
        e.edge(41, words, Edges.with(one, "copy(0, 0, 1, 0, 0) 0", "copy(0, 4, 1, 3, 0) 0", "copy(0, 0, 0, 0, 4) 4", "write(1, 0, 0) 0", "write(0, 3, 0) 4"));
        e.edge(41, "(as they all were)", Edges.with(one, "copy(0, 0, 0, 1, 3) 3", "write(0, 0, 0) 1", "write(0, 1, 0) 1", "write(0, 2, 0) 2", "write(0, 3, 0) 3"));
        e.edge(41, "(as they all were)", Edges.with(one, "copy(0, 1, 0, 0, 3) 3", "write(0, 0, 0) 2", "write(0, 1, 0) 3", "write(0, 2, 0) 4", "write(0, 3, 0) 4"));
        e.edge(41, words, "sheet(0, 64, 40) 40", "sheet(3, 64, 40) 40", "write(0, 0, LONGMIN) 0", "write(0, 39, LONGMAX) 0", "copy(0, 0, 3, 0, 40) 40",
            "write(3, 0, 0) LONGMIN", "write(3, 39, 0) LONGMAX");
        e.edge(41, words, "sheet(0, 8, 0) 0", "sheet(1, 8, 0) 0", "copy(0, 0, 1, 0, 0) 0", "copy(0, 0, 0, 0, 0) 0", "copy(0, 0, 1, 0, 1) BEYOND");
    }

    private static void copyRefused() {
        String[] four = {"sheet(0, 16, 4) 4", "sheet(1, 16, 3) 3", "sheet(2, 8, 4) 4", "write(0, 0, 1) 0", "write(0, 3, 2) 0", "write(1, 0, 3) 0", "write(2, 0, 4) 0"};
        e.edge(41, "BEYOND: no such sheet (either).", Edges.with(four, "copy(-1, 0, 1, 0, 1) BEYOND", "copy(4, 0, 1, 0, 1) BEYOND", "copy(0, 0, -1, 0, 1) BEYOND",
            "copy(0, 0, 4, 0, 1) BEYOND", "copy(MIN, 0, 1, 0, 1) BEYOND", "copy(0, 0, MAX, 0, 1) BEYOND", "copy(3, 0, 4, 0, 1) BEYOND", "copy(4, 0, 3, 0, 1) BEYOND"));
        e.edge(41, "MISSING: one is.", Edges.with(four, "copy(0, 0, 3, 0, 1) MISSING", "copy(3, 0, 0, 0, 1) MISSING", "copy(3, 0, 3, 0, 0) MISSING",
            "copy(0, -1, 3, 0, 1) MISSING", "copy(2, 0, 3, 0, 9) MISSING"));
        e.edge(41, "KIND: they are not of as many bits.", Edges.with(four, "copy(0, 0, 2, 0, 1) KIND", "copy(2, 0, 0, 0, 1) KIND", "copy(2, 0, 1, 0, 0) KIND",
            "copy(0, -1, 2, 0, 1) KIND", "copy(0, 0, 2, 0, 41) KIND", "copy(0, 0, 2, -1, -1) KIND", "sheet(3, 64, 4) 4", "copy(0, 0, 3, 0, 1) KIND"));
        e.edge(41, "BEYOND: one has not so many", Edges.with(four, "copy(0, 0, 1, 0, 4) BEYOND", "copy(1, 0, 0, 0, 4) BEYOND", "copy(0, 2, 1, 0, 3) BEYOND",
            "copy(0, 0, 1, 1, 3) BEYOND", "copy(0, 5, 1, 0, 0) BEYOND", "copy(0, 0, 1, 4, 0) BEYOND", "copy(0, 4, 1, 0, 1) BEYOND", "copy(0, 0, 0, 1, 4) BEYOND"));
        e.edge(41, "BEYOND: one has not so many", Edges.with(four, "copy(0, 1, 1, 0, MAX) BEYOND", "copy(0, MAX, 1, 0, 1) BEYOND", "copy(0, MAX, 1, MAX, MAX) BEYOND",
            "copy(0, 0, 1, MAX, 1) BEYOND", "copy(0, 0, 1, 1, MAX) BEYOND", "copy(0, 0, 0, 0, MAX) BEYOND", "copy(0, MAX, 1, 0, 0) BEYOND"));
        e.edge(41, "or from, to or n is below 0", Edges.with(four, "copy(0, -1, 1, 0, 1) BEYOND", "copy(0, 0, 1, -1, 1) BEYOND", "copy(0, 0, 1, 0, -1) BEYOND",
            "copy(0, -1, 1, 0, 0) BEYOND", "copy(0, 0, 1, -1, 0) BEYOND", "copy(0, 1, 1, 1, -1) BEYOND", "copy(0, MIN, 1, 0, 1) BEYOND", "copy(0, 0, 1, MIN, 1) BEYOND",
            "copy(0, 0, 1, 0, MIN) BEYOND", "copy(0, MIN, 1, MIN, MIN) BEYOND"));
    }

    private static void lays() {
        e.edge(42, "those that aren't 0 to 99", "told left 5", "sheet(0, 16, 4) 4", "write(0, 0, -1) 0", "write(0, 1, 100) 0", "write(0, 2, 99) 0", "lays(0, 0) 2",
            "ears(0, 0) 5", "ears(0, 1) 5", "ears(0, 2) 99", "ears(0, 3) 0", "ears(0, 4) 5");
        e.edge(42, "those that aren't 0 to 99", "told left 5", "sheet(0, 64, 5) 5", "write(0, 0, LONGMAX) 0", "write(0, 1, LONGMIN) 0", "write(0, 2, 4294967297) 0",
            "write(0, 3, 65536) 0", "write(0, 4, -4294967295) 0", "lays(0, 3) 0", "left(-1) 320");
        e.edge(42, "those that aren't 0 to 99", "told left 5", "sheet(0, 8, 3) 3", "write(0, 0, 200) 0", "write(0, 1, 355) 0", "write(0, 2, 100) 0", "lays(0, 7) 1",
            "ears(7, 0) 5", "ears(7, 1) 99", "ears(7, 2) 5");
        e.edge(42, "or stand for no PLACE, are left out", "told left 5", "sheet(0, 8, 40) 40", "lays(0, 7) 8", "left(-1) 280", "left(7) 0", "lays(0, 4) 32",
            "left(-1) 160", "left(3) 40", "lays(0, 3) 40", "left(-1) 120", "lays(0, 0) 40", "left(-1) 0");
        e.edge(42, "EARS at PLACES 0, 1, .. of ROWS from one on (row by row", "told left 5", "sheet(0, 8, 9) 9", "write(0, 7, 7) 0", "write(0, 8, 8) 0", "lays(0, 6) 9",
            "ears(6, 7) 7", "ears(7, 0) 8", "ears(7, 1) 5", "ears(5, 7) 5");
        e.edge(42, "how many came", "told left 5", "sheet(0, 8, 0) 0", "lays(0, 0) 0", "lays(0, 7) 0", "left(-1) 320", "sheet(0, 8, 1) 1", "lays(0, 7) 1", "left(-1) 315");
        e.edge(42, "BEYOND: no such sheet.", "told left 5", "lays(-1, 0) BEYOND", "lays(4, 0) BEYOND", "lays(MIN, 0) BEYOND", "lays(MAX, 0) BEYOND", "lays(4, 8) BEYOND");
        e.edge(42, "MISSING.", "told left 5", "lays(0, 0) MISSING", "lays(3, 0) MISSING", "lays(0, 8) MISSING", "lays(0, -1) MISSING");
        e.edge(42, "BEYOND: row.", "told left 5", "sheet(0, 8, 8) 8", "lays(0, -1) BEYOND", "lays(0, 8) BEYOND", "lays(0, MIN) BEYOND", "lays(0, MAX) BEYOND", "left(-1) 320");
    }

    private static void book() {
        String words = "BUNDLES of GLEANERS 0, 1, .. ON n MINUTES (0 to 200) come to a sheet, as far as it has numbers: how many.";
        e.edge(43, words, "told bell 0; left 9; gleaner at 7; old at 6", "sheet(0, 16, 4) 4", "write(0, 0, 1) 0", "write(0, 2, 3) 0", "book(0, 0) 2", "write(0, 0, 1) 0",
            "book(0, 1) 2", "write(0, 0, 0) 5", "write(0, 1, 0) 9", "write(0, 2, 3) 3", "book(0, 200) 2", "write(0, 0, 0) 40", "now(0) 0", "count(2) 0");
        e.edge(43, "as far as it has numbers", "told bell 0; left 9; gleaner at 7; old at 6", "sheet(0, 8, 1) 1", "book(0, 1) 1", "write(0, 0, 0) 5", "sheet(0, 8, 0) 0",
            "book(0, 1) 0", "sheet(0, 8, 2) 2", "book(0, 1) 2", "write(0, 1, 0) 9");
        e.edge(43, "how many", "sheet(0, 8, 3) 3", "write(0, 0, 7) 0", "book(0, 0) 0", "write(0, 0, 7) 7", "told bell 0; left 9", "9 times gleaner(1, 7, 0)",
            "book(0, 1) 3", "sheet(1, 16, 40) 40", "book(1, 1) 9", "write(1, 8, 0) 1", "sheet(1, 16, 9) 9", "book(1, 2) 9", "write(1, 8, 0) 2");
        e.edge(43, "come to a sheet", "told bell 0; row 0 ears 99 28; row 1 ears 99 29; row 2 ears 99 99 57; row 3 ears 99 99 58",
            "told old at 0; old at 1; old at 2; old at 3", "sheet(0, 8, 4) 4", "book(0, 4) 4", "read(0, 4) 0", "write(0, 0, 0) 127", "write(0, 1, 0) -128",
            "write(0, 2, 0) -1", "write(0, 3, 0) 0", "sheet(0, 16, 4) 4", "book(0, 4) 4", "write(0, 1, 0) 128", "write(0, 2, 0) 255", "write(0, 3, 0) 256");
        // Six fields of 99 at each place: 38016 ears, more than 16 bits hold.
        String[] field = {"told left 99", "day() *", "set(0, 1, 0) *", "minutes(127) 6336"};
        String[] six = {"told bell 0; old at 0"};
        for (int i = 0; i < 6; i++) {
            six = Edges.with(six, field);
        }
        e.edge(43, "come to a sheet", Edges.with(six, "of(0, 4) 38016", "sheet(0, 16, 1) 1", "book(0, 0) 1", "read(0, 0) 0", "write(0, 0, 0) -27520", "sheet(0, 8, 1) 1",
            "book(0, 0) 1", "read(0, 0) 0", "write(0, 0, 0) -128", "sheet(0, 64, 1) 1", "book(0, 0) 1", "read(0, 0) 0", "write(0, 0, 0) 38016"));
    }

    private static void read() {
        String two = "told bell 0; left 9; gleaner at 7; old at 6";
        e.edge(44, "0 if so", two, "sheet(0, 8, 2) 2", "read(0, 0) 0", "book(0, 1) 2", "read(0, 1) 0", "read(0, 0) 1", "book(0, 200) 2", "read(0, 200) 0");
        e.edge(44, "else 1 and the place of the first that isn't", two, "sheet(0, 16, 2) 2", "book(0, 3) 2", "write(0, 1, 0) 18", "read(0, 3) 2", "write(0, 0, 0) 15",
            "read(0, 3) 1", "write(0, 0, 15) 0", "write(0, 1, 18) 0", "read(0, 3) 0", "read(0, 2) 1");
        e.edge(44, "(1 and how many, if more must come)", two, "sheet(0, 8, 0) 0", "read(0, 0) 1", "sheet(0, 8, 1) 1", "read(0, 0) 2", "book(0, 1) 1", "read(0, 1) 2",
            "read(0, 0) 1");
        e.edge(44, "numbers of a sheet are such a book, as many as GLEANERS", two, "sheet(0, 8, 3) 3", "read(0, 0) 3", "book(0, 1) 2", "read(0, 1) 3", "write(0, 2, 1) 0",
            "read(0, 1) 3", "gleaner(1, 0, 0) 2", "read(0, 1) 0", "read(0, 2) 1");
        e.edge(44, "numbers of a sheet are such a book, as many as GLEANERS", "sheet(0, 8, 0) 0", "read(0, 0) 0", "sheet(0, 8, 1) 1", "read(0, 0) 1", "sheet(0, 8, 40) 40",
            "read(0, 200) 1", "9 times gleaner(0, 0, 0)", "read(0, 0) 10", "sheet(0, 8, 9) 9", "read(0, 0) 0", "sheet(0, 8, 8) 8", "read(0, 0) 9", "sheet(0, 8, 10) 10",
            "read(0, 0) 10");
        e.edge(44, "numbers of a sheet are such a book", two, "sheet(0, 64, 2) 2", "book(0, 1) 2", "write(0, 1, 4294967305) 9", "read(0, 1) 2", "write(0, 1, 9) 4294967305",
            "read(0, 1) 0", "write(0, 0, -251) 5", "read(0, 1) 1");
    }

    private static void refusedAsBook() {
        String[] acts = {"book", "read"};
        for (String act : acts) {
            int promise = act.equals("book") ? 43 : 44;
            String noSheet = promise == 43 ? "BEYOND: no such sheet." : "Refused as book().";
            e.edge(promise, noSheet, "told old at 0", act + "(-1, 0) BEYOND", act + "(4, 0) BEYOND", act + "(MIN, 0) BEYOND", act + "(MAX, 0) BEYOND", act + "(4, 201) BEYOND");
            e.edge(promise, promise == 43 ? "MISSING." : noSheet, "told old at 0", act + "(0, 0) MISSING", act + "(3, 0) MISSING", act + "(0, 201) MISSING",
                act + "(0, -1) MISSING");
            e.edge(promise, promise == 43 ? "BEYOND: n." : noSheet, "told left 9; bell 0; old at 0", "sheet(0, 8, 1) 1", act + "(0, -1) BEYOND", act + "(0, 201) BEYOND",
                act + "(0, MIN) BEYOND", act + "(0, MAX) BEYOND", "write(0, 0, 0) 0");
            e.edge(promise, promise == 43 ? "STATE: MINUTE would be above 9999." : noSheet, "49 times minutes(200)", "told left 9; bell 0; old at 7", "sheet(0, 8, 1) 1",
                "write(0, 0, 72) 0", act + "(0, 200) STATE", act + "(1, 200) MISSING", act + "(4, 200) BEYOND", act + "(0, 201) BEYOND",
                act + "(0, 199) " + (promise == 43 ? 1 : 0), "minutes(199) 72", act + "(0, 0) " + (promise == 43 ? 1 : 0), act + "(0, 1) STATE", "write(0, 0, 72) 72");
        }
    }
}
