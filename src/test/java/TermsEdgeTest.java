/** The edges that the document's "Terms" name: findings, the field, gleaners, a minute, rain, on, sheets. */
public final class TermsEdgeTest {
    private static final int TERMS = Edges.TERMS;
    private static final Edges e = new Edges();

    public static void main(String[] args) {
        calls();
        findings();
        findingsChangeNothing();
        quotientsAndSets();
        field();
        gleaners();
        takes();
        draws();
        goes();
        geese();
        bell();
        taking();
        going();
        rain();
        on();
        toTheEnd();
        sheets();
        e.end(TERMS, TERMS);
    }

    private static void calls() {
        e.edge(TERMS, "An object is used for at most 512 calls after it has been made",
            "499 times image()", "gleaner(3, 7, 0) 0", "leave(7, 7, 99) 0", "rain() 19", "ears(7, 7) 80", "undo() 0");
    }

    private static void findings() {
        e.edge(TERMS, "FINDINGS are answers below -1000000000: -1000000001 BEYOND, -1000000002 FULL, -1000000003 KIND, "
            + "-1000000004 NONE, -1000000005 STATE, -1000000006 MISSING, -1000000007 SIZE",
            "told bell 0; row 0 ears 61; old at 0; child at 0",
            "ears(8, 0) -1000000001",
            "as(0, 2) -1000000003",
            "undo() -1000000004",
            "lays(0, 0) -1000000006",
            "sheet(0, 8, -1) -1000000007",
            "7 times gleaner(0, 0, 0)",
            "gleaner(0, 0, 0) -1000000002",
            "49 times minutes(200)",
            "minutes(200) -1000000005");
        e.edge(TERMS, "(in longs, too)",
            "told bell 0; row 0 ears 61; old at 0; child at 0",
            "minutes(1) 61",
            "heap(0, 0, 1, 0) -1000000001",
            "heap(0, 1, 1, 0) -1000000007",
            "write(4, 0, 0) -1000000001",
            "write(0, 0, 0) -1000000006",
            "sheet(0, 64, 1) 1",
            "write(0, 1, 0) -1000000001");
    }

    /** Whatever acts change anything, each refused in every way that it can be. */
    private static void findingsChangeNothing() {
        String some = "told left 9; bell 1; geese 70; sheaves 80; sly at 2 place 3 house 1 back; old at 7 place 7; child at 0";
        e.edge(TERMS, "one that answers a finding changes nothing but status()",
            some, "minutes(3) *", "image() 1", "minutes(1) *", "fed bell 77",
            "leave(0, 0, 100) BEYOND", "leave(8, 0, 1) BEYOND", "rake(8) BEYOND", "let(0, 1000) BEYOND",
            "let(1, 10000) BEYOND", "let(2, -1) BEYOND", "gleaner(6, 0, 0) BEYOND", "gleaner(0, 8, 0) BEYOND",
            "gleaner(0, 0, 5) BEYOND", "set(1, 1, 8) BEYOND", "set(1, 4, 1) BEYOND", "set(3, 1, 1) BEYOND",
            "turn(0, 6) BEYOND", "turn(3, 0) BEYOND", "lay(3) BEYOND", "minutes(0) BEYOND", "minutes(201) BEYOND",
            "feed(0, 5) BEYOND");
        e.edge(TERMS, "one that answers a finding changes nothing but status()",
            "sheet(0, 8, 3) 3", "sheet(1, 8, 2) 2", "sheet(2, 16, 3) 3", "write(0, 1, 5) 0", "write(1, 0, 6) 0", "write(2, 2, 7) 0",
            some, "minutes(2) *",
            "sheet(0, 32, 1) BEYOND", "sheet(0, 16, -1) SIZE", "sheet(0, 16, 41) BEYOND", "sheet(0, 0, 41) BEYOND", "sheet(0, 0, -1) SIZE",
            "write(0, 3, 9) BEYOND", "copy(0, 0, 1, 0, 3) BEYOND", "copy(0, 1, 1, 0, -1) BEYOND", "copy(0, 1, 2, 0, 1) KIND",
            "copy(0, 1, 3, 0, 1) MISSING", "lays(0, 8) BEYOND", "lays(3, 0) MISSING", "book(0, 201) BEYOND",
            "undo() NONE");
        e.edge(TERMS, "one that answers a finding changes nothing but status()",
            "48 times minutes(200)", "minutes(200) 0", some, "sheet(0, 16, 3) 3", "write(0, 0, 5) 0",
            "minutes(200) STATE", "book(0, 200) STATE", "read(0, 200) STATE", "on(0, 200) STATE", "where(0, 200) STATE", "done(0) STATE",
            "after() STATE", "most() STATE", "meet(0, 1) STATE", "begin(0) STATE", "best(0) STATE", "alone(0) STATE", "rival(0) STATE",
            "may(1) STATE", "leaveFor(1) STATE", "ring(0, 1, 200) STATE");
        e.edge(TERMS, "one that answers a finding changes nothing but status()",
            some, "minutes(1) *", "6 times gleaner(5, 5, 1)", "gleaner(0, 0, 0) FULL",
            "30 times feed(544829025, 4)", "feed(98, 1) FULL",
            "leaveFor(9999) NONE", "ring(0, 9999, 200) NONE", "rival(2) NONE", "shared(4) NONE", "as(0, 3) KIND");
    }

    private static void quotientsAndSets() {
        e.edge(TERMS, "Quotients are cut.",
            "takes(0, 1) 1", "takes(0, 3) 2", "takes(0, 99) 50", "takes(2, 2) 0", "takes(2, 5) 1", "takes(2, 98) 32",
            "told bell 0; row 0 ears 19; row 1 ears 9; old at 0; child at 2", "minutes(1) 19",
            "shared(0) 9", "rain() 2", "ears(1, 0) 8");
        e.edge(TERMS, "Sets are told by bits.",
            "told bell 0; left 1", "9 times gleaner(3, 0, 0)",
            "set(1, 1, 1) 0", "set(8, 1, 2) 0", "minutes(1) 3", "straw(0) 259", "straw(1) 0");
        e.edge(TERMS, "Sets are told by bits.",
            "told bell 0", "9 times gleaner(4, 0, 0)", "minutes(1) 18", "straw(100) 511");
    }

    private static void field() {
        e.edge(TERMS, "ROWS 0 to 7, in each PLACES 0 to 7",
            "leave(0, 0, 1) 0", "leave(0, 7, 2) 0", "leave(7, 0, 3) 0", "leave(7, 7, 4) 0", "left(-1) 10",
            "leave(-1, 7, 5) BEYOND", "leave(8, 0, 5) BEYOND", "leave(1, -1, 5) BEYOND", "leave(0, 8, 5) BEYOND");
        e.edge(TERMS, "EARS at each (0 to 99; 0 at first)",
            "ears(0, 0) 0", "ears(7, 7) 0", "leave(3, 3, 99) 0", "leave(3, 3, 100) BEYOND", "leave(3, 3, -1) BEYOND",
            "ears(3, 3) 99", "leave(3, 3, 0) 99", "ears(3, 3) 0");
        e.edge(TERMS, "SHEAVES: how many ears are still in them (0 to 9999; 500 at first)",
            "now(3) 500", "let(2, 9999) 500", "let(2, 10000) BEYOND", "let(2, 0) 9999", "let(2, -1) BEYOND", "now(3) 0");
        e.edge(TERMS, "MINUTE: 0 at first (9999 at most)",
            "now(0) 0", "49 times minutes(200)", "minutes(199) 0", "now(0) 9999", "minutes(1) STATE", "now(0) 9999");
        e.edge(TERMS, "BELL: a MINUTE (0 to 999; 10 at first)",
            "now(1) 10", "let(0, 0) 10", "let(0, 999) 0", "let(0, 1000) BEYOND", "let(0, -1) BEYOND", "now(1) 999");
        e.edge(TERMS, "GEESE: a MINUTE (0 to 9999; 9999 at first)",
            "now(2) 9999", "let(1, 0) 9999", "let(1, 9999) 0", "let(1, 10000) BEYOND", "let(1, -1) BEYOND", "now(2) 9999");
    }

    private static void gleaners() {
        e.edge(TERMS, "(at most 9)",
            "gleaner(0, 0, 0) 0", "7 times gleaner(0, 0, 0)", "gleaner(0, 0, 0) 8", "gleaner(0, 0, 0) FULL", "count(0) 9", "of(8, 0) 0",
            "of(9, 0) BEYOND");
        e.edge(TERMS, "0 GLEANER, 1 CHILD under GLEANER, 2 QUICK under GLEANER, 3 OLD under GLEANER, 4 SLY under QUICK, 5 WIDOW under OLD",
            "gleaner(0, 0, 0) 0", "gleaner(5, 0, 0) 1", "gleaner(-1, 0, 0) BEYOND", "gleaner(6, 0, 0) BEYOND",
            "as(0, 5) KIND", "as(1, 5) 0", "as(1, 3) 0", "as(1, 0) 0", "as(1, 4) KIND", "as(1, 2) KIND", "as(1, 1) KIND");
        e.edge(TERMS, "going ON (to greater PLACES, at first) or BACK",
            "gleaner(0, 0, 0) 0", "of(0, 6) 0", "let(0, 0) 10", "minutes(1) 0", "of(0, 2) 1",
            "told gleaner at 0 place 1 back", "of(1, 6) 1", "minutes(1) 0", "of(1, 2) 0", "of(1, 1) 0");
        e.edge(TERMS, "of a HOUSE (0 to 4)",
            "gleaner(0, 0, 0) 0", "gleaner(0, 0, 4) 1", "gleaner(0, 0, -1) BEYOND", "gleaner(0, 0, 5) BEYOND", "of(0, 3) 0", "of(1, 3) 4");
        e.edge(TERMS, "with a BUNDLE (ears; 0 at first), CUT (how many of these are from SHEAVES), DONE or not",
            "gleaner(4, 0, 0) 0", "of(0, 4) 0", "of(0, 5) 0", "of(0, 7) 0", "let(0, 0) 10", "leave(0, 0, 3) 0",
            "minutes(1) 3", "of(0, 4) 3", "of(0, 5) 2");
    }

    private static void takes() {
        e.edge(TERMS, "GLEANER: half of n and 1 (n at most).",
            "takes(0, 0) 0", "takes(0, 1) 1", "takes(0, 2) 2", "takes(0, 3) 2", "takes(0, 4) 3", "takes(0, 99) 50");
        e.edge(TERMS, "CHILD: 1 (n at most).", "takes(1, 0) 0", "takes(1, 1) 1", "takes(1, 2) 1", "takes(1, 99) 1");
        e.edge(TERMS, "QUICK: a third of n.", "takes(2, 0) 0", "takes(2, 2) 0", "takes(2, 3) 1", "takes(2, 5) 1", "takes(2, 6) 2", "takes(2, 99) 33");
        e.edge(TERMS, "OLD: n.", "takes(3, 0) 0", "takes(3, 1) 1", "takes(3, 99) 99");
        e.edge(TERMS, "SLY: as QUICK.", "takes(4, 0) 0", "takes(4, 2) 0", "takes(4, 3) 1", "takes(4, 5) 1", "takes(4, 6) 2", "takes(4, 99) 33");
        e.edge(TERMS, "WIDOW: as OLD, but 9 at most.",
            "takes(5, 0) 0", "takes(5, 1) 1", "takes(5, 8) 8", "takes(5, 9) 9", "takes(5, 10) 9", "takes(5, 99) 9");
    }

    private static void draws() {
        e.edge(TERMS, "SLY: 2 (as far as there are), if MINUTE is even",
            "told bell 0; sly at 0; sheaves 3",
            "minutes(1) 2", "now(3) 1", "minutes(1) 0", "now(3) 1", "minutes(1) 1", "now(3) 0", "minutes(2) 0", "of(0, 4) 3", "of(0, 5) 3");
        e.edge(TERMS, "SLY: 2 (as far as there are), if MINUTE is even",
            "told bell 0; sly at 0; sheaves 0", "minutes(1) 0", "let(2, 2) 0", "minutes(1) 0", "minutes(1) 2", "now(3) 0", "of(0, 5) 2");
        e.edge(TERMS, "all others: 0",
            "told bell 0; gleaner at 0; child at 0; quick at 0; old at 0; widow at 0", "minutes(1) 0", "now(3) 500", "count(3) 0");
        e.edge(TERMS, "DRAWS from SHEAVES each time it takes",
            "told bell 1; sly at 7 place 7", "minutes(1) 0", "now(3) 500",
            "minutes(1) 0", "of(0, 7) 1", "minutes(1) 0", "now(3) 500");
    }

    private static void goes() {
        e.edge(TERMS, "GLEANER: 1. QUICK: 2. OLD: 1, if MINUTE is even, else 0. SLY: as QUICK. CHILD, WIDOW: as the KIND above.",
            "told bell 0; gleaner at 0; child at 0; quick at 0; old at 0; sly at 0; widow at 0",
            "of(0, 9) 1", "of(1, 9) 1", "of(2, 9) 2", "of(3, 9) 1", "of(4, 9) 2", "of(5, 9) 1",
            "minutes(1) *", "of(0, 2) 1", "of(1, 2) 1", "of(2, 2) 2", "of(3, 2) 1", "of(4, 2) 2", "of(5, 2) 1",
            "of(0, 9) 1", "of(1, 9) 1", "of(2, 9) 2", "of(3, 9) 0", "of(4, 9) 2", "of(5, 9) 0",
            "minutes(1) *", "of(0, 2) 2", "of(1, 2) 2", "of(2, 2) 4", "of(3, 2) 1", "of(4, 2) 4", "of(5, 2) 1");
    }

    private static void geese() {
        e.edge(TERMS, "if MINUTE is GEESE, all EARS in ROWS 0 and 1 are gone",
            "told left 9; geese 2; bell 999", "minutes(2) 0", "left(-1) 576", "minutes(1) 0", "left(0) 0", "left(1) 0", "left(2) 72",
            "left(-1) 432", "leave(0, 0, 5) 0", "leave(1, 7, 6) 0", "minutes(1) 0", "left(-1) 443");
        e.edge(TERMS, "if MINUTE is GEESE, all EARS in ROWS 0 and 1 are gone",
            "told left 9; geese 0; bell 0; old at 0; old at 1 place 7; old at 2", "minutes(1) 9", "of(0, 4) 0", "of(1, 4) 0", "of(2, 4) 9");
        e.edge(TERMS, "if MINUTE is GEESE, all EARS in ROWS 0 and 1 are gone",
            "49 times minutes(200)", "told left 9", "minutes(199) 0", "left(-1) 576");
        e.edge(TERMS, "if MINUTE is GEESE, all EARS in ROWS 0 and 1 are gone",
            "49 times minutes(200)", "told left 9; geese 9998", "minutes(198) 0", "left(-1) 576", "minutes(1) 0", "left(-1) 432");
        e.edge(TERMS, "if MINUTE is GEESE, all EARS in ROWS 0 and 1 are gone",
            "told left 9; geese 2; bell 999", "minutes(3) 0", "told left 9", "day() 0", "minutes(2) 0", "left(0) 72", "minutes(1) 0", "left(0) 0");
    }

    private static void bell() {
        e.edge(TERMS, "If MINUTE is BELL or later",
            "told left 9; bell 2; gleaner at 3", "minutes(2) 0", "of(0, 2) 0", "minutes(1) 5", "of(0, 2) 1", "minutes(1) 5", "of(0, 2) 2");
        e.edge(TERMS, "If MINUTE is BELL or later",
            "told left 9; gleaner at 3", "minutes(10) 0", "where(0, 0) 30", "minutes(1) 5", "where(0, 0) 31");
        e.edge(TERMS, "If MINUTE is BELL or later",
            "told left 9; bell 999; gleaner at 3", "4 times minutes(200)", "minutes(199) 0", "of(0, 4) 0", "minutes(1) 5", "now(0) 1000", "minutes(1) 5");
        e.edge(TERMS, "If MINUTE is BELL or later",
            "told left 9; bell 0; gleaner at 3", "minutes(1) 5", "let(0, 3) 0", "minutes(2) 0", "where(0, 0) 31", "minutes(1) 5");
    }

    private static void taking() {
        e.edge(TERMS, "by numbers, each GLEANER that isn't DONE takes (from EARS where it is, then from SHEAVES) into its BUNDLE",
            "told bell 0; row 0 ears 10; sheaves 3; sly at 0; sly at 0; gleaner at 0; widow at 0; old at 0",
            "minutes(1) 13", "of(0, 4) 5", "of(0, 5) 2", "of(1, 4) 3", "of(1, 5) 1", "of(2, 4) 3", "of(3, 4) 2", "of(4, 4) 0");
        e.edge(TERMS, "by numbers, each GLEANER that isn't DONE takes",
            "told bell 0; gleaner at 7 place 7; sly at 7 place 6", "minutes(1) 2", "now(4) 2", "told left 9", "minutes(3) 0", "left(7) 72", "now(3) 498");
        e.edge(TERMS, "then, by numbers, each that isn't DONE goes PLACE by PLACE",
            "told bell 0; left 9; gleaner at 0; old at 0 place 1 back", "minutes(1) 14", "of(0, 4) 5", "of(1, 4) 9", "ears(0, 0) 4", "ears(0, 1) 0");
    }

    private static void going() {
        e.edge(TERMS, "one more (BACK: one less) in its ROW",
            "told bell 0; gleaner at 0 place 6; gleaner at 0 place 1 back", "minutes(1) 0",
            "where(0, 0) 7", "of(0, 6) 0", "where(1, 0) 0", "of(1, 6) 1");
        e.edge(TERMS, "from the last one (BACK: PLACE 0) to the same PLACE of the next ROW, turned round",
            "told bell 0; gleaner at 0 place 7; gleaner at 6 place 0 back; quick at 0 place 7; quick at 6 place 0 back",
            "told quick at 0 place 6; quick at 6 place 1 back", "minutes(1) 0",
            "where(0, 0) 17", "of(0, 6) 1", "where(1, 0) 70", "of(1, 6) 0", "where(2, 0) 16", "of(2, 6) 1", "where(3, 0) 71", "of(3, 6) 0",
            "where(4, 0) 17", "of(4, 6) 1", "where(5, 0) 70", "of(5, 6) 0", "now(4) 0");
        e.edge(TERMS, "from the last ROW so: it is DONE, and stays there",
            "told bell 0; gleaner at 7 place 7; gleaner at 7 place 0 back; quick at 7 place 7; quick at 7 place 6; quick at 7 place 5",
            "told old at 7 place 0 back", "minutes(1) 0",
            "where(0, 0) 77", "of(0, 6) 0", "of(0, 7) 1", "where(1, 0) 70", "of(1, 6) 1", "of(1, 7) 1", "where(2, 0) 77", "of(2, 7) 1",
            "where(3, 0) 77", "of(3, 7) 1", "where(4, 0) 77", "of(4, 7) 0", "of(5, 7) 1", "now(4) 5",
            "minutes(1) 0", "now(4) 6", "minutes(9) 0", "where(0, 0) 77", "where(1, 0) 70", "where(4, 0) 77");
        e.edge(TERMS, "Then MINUTE is one more.", "minutes(1) 0", "now(0) 1", "told old at 0; bell 0", "minutes(1) 0", "now(0) 2");
    }

    private static void rain() {
        e.edge(TERMS, "of EARS at each PLACE a fifth is gone (cut)",
            "told row 0 ears 0 4 5 9 10 98 99; row 7 ears 0 0 0 0 0 0 0 5", "rain() 43",
            "ears(0, 0) 0", "ears(0, 1) 4", "ears(0, 2) 4", "ears(0, 3) 8", "ears(0, 4) 8", "ears(0, 5) 79", "ears(0, 6) 80", "ears(7, 7) 4");
        e.edge(TERMS, "of each BUNDLE a tenth (cut)",
            "told bell 0; row 0 ears 9; row 1 ears 10; row 2 ears 19; row 3 ears 99", "told old at 0; old at 1; old at 2; old at 3; old at 4",
            "minutes(1) 137", "rain() 11", "of(0, 4) 9", "of(1, 4) 9", "of(2, 4) 18", "of(3, 4) 90", "of(4, 4) 0");
        e.edge(TERMS, "CUT is less by a tenth of it (cut), too",
            "told bell 0; row 0 ears 6; sheaves 9; sly at 0", "minutes(9) 11", "of(0, 5) 9", "of(0, 4) 11",
            "rain() 1", "of(0, 4) 10", "of(0, 5) 9", "let(2, 1) 0", "minutes(2) 1", "of(0, 5) 10", "of(0, 4) 11",
            "rain() 1", "of(0, 5) 9", "of(0, 4) 10", "now(3) 0");
    }

    private static void on() {
        e.edge(TERMS, "ON: n MINUTES go on with all as it is; nothing changes.",
            "told left 9; bell 1; geese 3; sly at 0; old at 7 place 7", "on(0, 0) 0", "on(0, 200) *", "where(0, 200) *", "done(0) *", "meet(0, 1) *",
            "after() *", "most() *", "now(0) 0", "now(3) 500", "now(4) 0", "left(-1) 576", "where(0, 0) 0", "count(2) 0");
    }

    private static void toTheEnd() {
        e.edge(TERMS, "TO THE END: till all are DONE, or 200 MINUTES ON.",
            "told left 9; bell 0; geese 8; gleaner at 7", "after() 536", "let(1, 7) 8", "after() 392");
        e.edge(TERMS, "TO THE END: till all are DONE, or 200 MINUTES ON.",
            "told left 9; bell 199; gleaner at 7", "after() 571", "let(0, 200) 199", "after() 576", "let(1, 199) 9999", "after() 432",
            "let(1, 200) 199", "after() 576");
        e.edge(TERMS, "TO THE END: till all are DONE, or 200 MINUTES ON.",
            "told left 9; bell 0; geese 0", "after() 576", "told gleaner at 7 place 7", "after() 427", "minutes(1) 5", "told left 9; geese 1", "after() 576");
        e.edge(TERMS, "TO THE END: till all are DONE, or 200 MINUTES ON.",
            "told left 9; bell 0; gleaner at 7 place 7; child at 7", "most() 1", "after() 563");
        e.edge(TERMS, "BUNDLES of all in it together, by how many these are",
            "told bell 0; row 0 ears 5; old at 0; old at 1; old at 2 house 4", "minutes(1) 5", "shared(0) 2", "shared(4) 0", "shared(1) NONE");
    }

    private static void sheets() {
        e.edge(TERMS, "SHEETS 0 to 3 are rows of at most 40 numbers of 8, 16 or 64 bits, or MISSING (at first).",
            "write(0, 0, 1) MISSING", "write(1, 0, 1) MISSING", "write(2, 0, 1) MISSING", "write(3, 0, 1) MISSING",
            "sheet(0, 8, 40) 40", "sheet(3, 64, 40) 40", "sheet(1, 16, 41) BEYOND", "sheet(4, 8, 1) BEYOND", "sheet(-1, 8, 1) BEYOND",
            "write(0, 39, 1) 0", "write(3, 39, 1) 0", "write(0, 40, 1) BEYOND", "write(1, 0, 1) MISSING");
    }
}
