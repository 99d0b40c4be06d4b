import java.util.stream.IntStream;

/** The edges of promises 1 to 17: the field, gleaners, minutes. */
public final class FieldEdgeTest {
    private static final Edges e = new Edges();

    public static void main(String[] args) {
        aNewObject();
        leaveAndEars();
        leftAndRake();
        let();
        gleaner();
        of();
        set();
        turnAndAs();
        takes();
        lay();
        minutes();
        rain();
        day();
        now();
        e.end(1, 17);
    }

    private static void aNewObject() {
        e.edge(1, "No EARS but in SHEAVES", "left(-1) 0", "left(0) 0", "left(7) 0", "now(3) 500", "count(2) 0", "count(3) 0", "rain() 0");
        e.edge(1, "no GLEANERS", "count(0) 0", "of(0, 0) BEYOND", "lay(0) BEYOND", "straw(0) 0", "rich() NONE", "most() NONE", "day() 0", "now(4) 0");
        e.edge(1, "THE TAPE is empty", "count(1) 0", "wipe() 0", "text() -1");
        e.edge(1, "no image is kept", "undo() NONE", "tear() 0");
    }

    private static void leaveAndEars() {
        e.edge(2, "EARS at a ROW and PLACE become v: what they were.",
            "leave(0, 0, 99) 0", "leave(0, 0, 0) 99", "leave(0, 0, 0) 0", "leave(7, 7, 1) 0", "leave(0, 7, 2) 0", "leave(7, 0, 3) 0",
            "ears(7, 7) 1", "ears(0, 7) 2", "ears(7, 0) 3", "left(-1) 6");
        e.edge(2, "BEYOND.", "told left 4",
            "leave(-1, 0, 1) BEYOND", "leave(8, 0, 1) BEYOND", "leave(MIN, 0, 1) BEYOND", "leave(MAX, 0, 1) BEYOND",
            "leave(0, -1, 1) BEYOND", "leave(0, 8, 1) BEYOND", "leave(0, MIN, 1) BEYOND", "leave(0, MAX, 1) BEYOND",
            "leave(0, 0, -1) BEYOND", "leave(0, 0, 100) BEYOND", "leave(0, 0, MIN) BEYOND", "leave(0, 0, MAX) BEYOND");
        e.edge(3, "EARS at a ROW and PLACE.", "told row 0 ears 1 0 0 0 0 0 0 2; row 7 ears 3 0 0 0 0 0 0 4",
            "ears(0, 0) 1", "ears(0, 7) 2", "ears(7, 0) 3", "ears(7, 7) 4", "ears(1, 0) 0");
        e.edge(3, "BEYOND.", "told left 4",
            "ears(-1, 0) BEYOND", "ears(8, 0) BEYOND", "ears(0, -1) BEYOND", "ears(0, 8) BEYOND", "ears(-1, 8) BEYOND", "ears(1, -1) BEYOND",
            "ears(MIN, 0) BEYOND", "ears(MAX, 0) BEYOND", "ears(0, MIN) BEYOND", "ears(0, MAX) BEYOND");
    }

    private static void leftAndRake() {
        e.edge(4, "EARS of a ROW together", "left(0) 0", "told left 99; row 7 ears 0 0 0 0 0 0 0 1", "left(0) 792", "left(6) 792", "left(7) 1");
        e.edge(4, "of the FIELD (row -1)", "left(-1) 0", "told left 99", "left(-1) 6336");
        e.edge(4, "BEYOND.", "told left 4", "left(-2) BEYOND", "left(8) BEYOND", "left(MIN) BEYOND", "left(MAX) BEYOND");
        e.edge(5, "EARS of a ROW are gone: how many.",
            "rake(0) 0", "told left 99", "rake(0) 792", "rake(7) 792", "rake(7) 0", "left(0) 0", "left(1) 792", "left(6) 792", "left(7) 0");
        e.edge(5, "BEYOND.", "told left 4", "rake(-1) BEYOND", "rake(8) BEYOND", "rake(MIN) BEYOND", "rake(MAX) BEYOND", "left(-1) 256");
    }

    private static void let() {
        e.edge(6, "BELL (what 0), GEESE (1), SHEAVES (2) becomes v: what it was.",
            "let(0, 999) 10", "let(0, 0) 999", "let(1, 0) 9999", "let(1, 9999) 0", "let(2, 9999) 500", "let(2, 0) 9999", "let(2, 0) 0",
            "now(1) 0", "now(2) 9999", "now(3) 0");
        e.edge(6, "BEYOND.",
            "let(-1, 0) BEYOND", "let(3, 0) BEYOND", "let(MIN, 0) BEYOND", "let(MAX, 0) BEYOND",
            "let(0, -1) BEYOND", "let(0, 1000) BEYOND", "let(0, MAX) BEYOND", "let(1, -1) BEYOND", "let(1, 10000) BEYOND", "let(1, MIN) BEYOND",
            "let(2, -1) BEYOND", "let(2, 10000) BEYOND", "let(2, MAX) BEYOND");
        e.edge(6, "BEYOND.", "let(1, 1000) 9999", "let(2, 1000) 500", "let(0, 1000) BEYOND");
    }

    private static void gleaner() {
        e.edge(7, "A new GLEANER at PLACE 0, ON: its number.",
            "gleaner(0, 0, 0) 0", "gleaner(5, 7, 4) 1", "of(1, 0) 5", "of(1, 1) 7", "of(1, 2) 0", "of(1, 3) 4", "of(1, 4) 0", "of(1, 5) 0",
            "of(1, 6) 0", "of(1, 7) 0");
        e.edge(7, "BEYOND: kind, row, house.",
            "gleaner(-1, 0, 0) BEYOND", "gleaner(6, 0, 0) BEYOND", "gleaner(MIN, 0, 0) BEYOND", "gleaner(MAX, 0, 0) BEYOND",
            "gleaner(0, -1, 0) BEYOND", "gleaner(0, 8, 0) BEYOND", "gleaner(0, MIN, 0) BEYOND", "gleaner(0, MAX, 0) BEYOND",
            "gleaner(0, 0, -1) BEYOND", "gleaner(0, 0, 5) BEYOND", "gleaner(0, 0, MIN) BEYOND", "gleaner(0, 0, MAX) BEYOND", "count(0) 0");
        e.edge(7, "FULL.",
            "8 times gleaner(1, 1, 1)", "gleaner(2, 2, 2) 8", "gleaner(2, 2, 2) FULL", "gleaner(6, 0, 0) BEYOND", "gleaner(0, 8, 0) BEYOND",
            "gleaner(0, 0, 5) BEYOND", "gleaner(0, 0, 0) FULL");
        e.edge(7, "FULL.", "image() 1", "9 times gleaner(1, 1, 1)", "gleaner(0, 0, 0) FULL", "undo() 0", "gleaner(2, 3, 4) 0");
    }

    private static void of() {
        e.edge(8, "what 0 KIND, 1 ROW, 2 PLACE, 3 HOUSE, 4 BUNDLE, 5 CUT, 6 1 if it goes BACK, else 0, 7 1 if DONE, else 0",
            "told bell 0; row 7 ears 9; sly at 7 place 0 house 4 back", "minutes(1) 5",
            "of(0, 0) 4", "of(0, 1) 7", "of(0, 2) 0", "of(0, 3) 4", "of(0, 4) 5", "of(0, 5) 2", "of(0, 6) 1", "of(0, 7) 1");
        e.edge(8, "8 TAKES where it is now", "told left 10; widow at 0", "of(0, 8) 9", "rake(0) 80", "of(0, 8) 0", "leave(0, 0, 8) 0", "of(0, 8) 8");
        e.edge(8, "9 GOES now", "told widow at 0; sly at 0", "of(0, 9) 1", "minutes(1) 0", "of(0, 9) 0", "of(1, 9) 2", "minutes(1) 0", "of(0, 9) 1");
        e.edge(8, "BEYOND.", "of(0, 0) BEYOND", "told old at 0; sly at 0",
            "of(-1, 0) BEYOND", "of(2, 0) BEYOND", "of(9, 0) BEYOND", "of(MIN, 0) BEYOND", "of(MAX, 0) BEYOND",
            "of(0, -1) BEYOND", "of(0, 10) BEYOND", "of(0, MIN) BEYOND", "of(0, MAX) BEYOND");
        e.edge(8, "BEYOND.", "image() 1", "gleaner(0, 0, 0) 0", "of(0, 0) 0", "undo() 0", "of(0, 0) BEYOND");
    }

    private static void set() {
        e.edge(9, "ROW (what 1), PLACE (2), HOUSE (3), BACK (6; v 0, 1) of a GLEANER becomes v",
            "gleaner(3, 2, 1) 0", "set(0, 1, 0) 2", "set(0, 1, 7) 0", "of(0, 1) 7", "set(0, 2, 7) 0", "set(0, 2, 0) 7", "of(0, 2) 0",
            "set(0, 3, 4) 1", "set(0, 3, 0) 4", "of(0, 3) 0", "set(0, 6, 1) 0", "of(0, 6) 1", "set(0, 6, 0) 1", "of(0, 6) 0");
        int[] whats = {1, 2, 3, 6};
        for (int what : whats) {
            e.edge(9, "(it isn't DONE then)", "told bell 0; old at 7 place 7", "minutes(1) 0", "of(0, 7) 1", "set(0, " + what + ", 9) BEYOND",
                "of(0, 7) 1", "now(4) 1", "set(0, " + what + ", 1) *", "of(0, 7) 0", "now(4) 0");
        }
        e.edge(9, "BEYOND.", "set(0, 1, 1) BEYOND", "told old at 3 place 3 house 3; sly at 3",
            "set(-1, 1, 1) BEYOND", "set(2, 1, 1) BEYOND", "set(MIN, 1, 1) BEYOND", "set(MAX, 1, 1) BEYOND",
            "set(0, 0, 1) BEYOND", "set(0, 4, 1) BEYOND", "set(0, 5, 1) BEYOND", "set(0, 7, 1) BEYOND", "set(0, 8, 1) BEYOND",
            "set(0, -1, 1) BEYOND", "set(0, MIN, 1) BEYOND", "set(0, MAX, 1) BEYOND");
        e.edge(9, "BEYOND.", "told old at 3 place 3 house 3",
            "set(0, 1, -1) BEYOND", "set(0, 1, 8) BEYOND", "set(0, 2, -1) BEYOND", "set(0, 2, 8) BEYOND",
            "set(0, 3, -1) BEYOND", "set(0, 3, 5) BEYOND", "set(0, 6, -1) BEYOND", "set(0, 6, 2) BEYOND",
            "set(0, 1, MIN) BEYOND", "set(0, 2, MAX) BEYOND", "set(0, 3, MIN) BEYOND", "set(0, 6, MAX) BEYOND");
    }

    private static void turnAndAs() {
        e.edge(10, "A GLEANER becomes one of another KIND: what it was.",
            "gleaner(0, 0, 0) 0", "turn(0, 5) 0", "turn(0, 0) 5", "turn(0, 0) 0", "of(0, 0) 0");
        e.edge(10, "A GLEANER becomes one of another KIND: what it was.",
            "told bell 0; sly at 7 place 6 house 2", "minutes(1) 2", "turn(0, 3) 4", "of(0, 4) 2", "of(0, 5) 2", "of(0, 7) 1", "of(0, 3) 2");
        e.edge(10, "BEYOND.", "turn(0, 0) BEYOND", "told old at 0",
            "turn(-1, 0) BEYOND", "turn(1, 0) BEYOND", "turn(MIN, 0) BEYOND", "turn(MAX, 0) BEYOND",
            "turn(0, -1) BEYOND", "turn(0, 6) BEYOND", "turn(0, MIN) BEYOND", "turn(0, MAX) BEYOND");
        e.edge(11, "A GLEANER as one of a kind: BUNDLE.",
            "told bell 0; row 0 ears 99; old at 0; sly at 1", "minutes(1) 101", "as(0, 0) 99", "as(0, 3) 99", "as(1, 0) 2", "as(1, 2) 2", "as(1, 4) 2");
        e.edge(11, "BEYOND: no such one, kind.", "as(0, 0) BEYOND", "told old at 0",
            "as(-1, 0) BEYOND", "as(1, 0) BEYOND", "as(MIN, 0) BEYOND", "as(MAX, 0) BEYOND",
            "as(0, -1) BEYOND", "as(0, 6) BEYOND", "as(0, MIN) BEYOND", "as(0, MAX) BEYOND");
        // A row a kind, in it the kinds as one of which it may be asked.
        int[][] may = {{0}, {0, 1}, {0, 2}, {0, 3}, {0, 2, 4}, {0, 3, 5}};
        for (int kind = 0; kind < 6; kind++) {
            for (int as = 0; as < 6; as++) {
                int asked = as;
                boolean is = IntStream.of(may[kind]).anyMatch(k -> k == asked);
                e.edge(11, "KIND: it isn't of that kind, nor of one under it.",
                    "gleaner(" + kind + ", 0, 0) 0", "as(0, " + as + ") " + (is ? "0" : "KIND"));
            }
        }
    }

    private static void takes() {
        e.edge(12, "TAKES of a KIND where n EARS (0 to 99) are.", "takes(0, 0) 0", "takes(0, 99) 50", "takes(5, 0) 0", "takes(5, 99) 9");
        e.edge(12, "BEYOND.",
            "takes(-1, 0) BEYOND", "takes(6, 0) BEYOND", "takes(MIN, 0) BEYOND", "takes(MAX, 0) BEYOND",
            "takes(0, -1) BEYOND", "takes(0, 100) BEYOND", "takes(5, -1) BEYOND", "takes(5, 100) BEYOND", "takes(3, MIN) BEYOND", "takes(3, MAX) BEYOND");
    }

    private static void lay() {
        e.edge(13, "BUNDLE of a GLEANER is laid down (0, and CUT 0): how much.",
            "told bell 0; row 0 ears 9; sly at 0", "lay(0) 0", "minutes(1) 5", "lay(0) 5", "of(0, 4) 0", "of(0, 5) 0", "lay(0) 0", "now(3) 498",
            "ears(0, 0) 6");
        e.edge(13, "BEYOND.", "lay(0) BEYOND", "told bell 0; left 9; old at 0", "minutes(1) 9",
            "lay(-1) BEYOND", "lay(1) BEYOND", "lay(MIN) BEYOND", "lay(MAX) BEYOND");
    }

    private static void minutes() {
        e.edge(14, "n MINUTES go (1 to 200)", "told left 9; bell 0; old at 0",
            "minutes(0) BEYOND", "minutes(-1) BEYOND", "minutes(201) BEYOND", "minutes(MIN) BEYOND", "minutes(MAX) BEYOND", "now(0) 0",
            "minutes(1) 9", "now(0) 1", "minutes(200) 567", "now(0) 201");
        e.edge(14, "how many ears came into BUNDLES by them",
            "minutes(1) 0", "told left 9; bell 2; sheaves 3; sly at 0; child at 7 place 7", "minutes(1) 0", "minutes(1) 6", "of(1, 7) 1",
            "minutes(1) 3", "minutes(1) 4", "minutes(1) 3");
        e.edge(14, "STATE: MINUTE would be above 9999.",
            "49 times minutes(200)", "told left 9; bell 0; old at 0", "now(0) 9800", "minutes(200) STATE", "minutes(201) BEYOND", "minutes(0) BEYOND",
            "now(0) 9800", "of(0, 4) 0", "minutes(199) 576", "now(0) 9999", "minutes(1) STATE", "minutes(200) STATE", "minutes(201) BEYOND",
            "minutes(0) BEYOND", "now(0) 9999");
        e.edge(14, "STATE: MINUTE would be above 9999.", "49 times minutes(200)", "minutes(198) 0", "minutes(2) STATE", "minutes(1) 0", "minutes(1) STATE");
    }

    private static void rain() {
        e.edge(15, "how many ears are gone, all together",
            "rain() 0", "told left 4", "rain() 0", "told left 99", "rain() 1216", "left(-1) 5120");
        e.edge(15, "how many ears are gone, all together",
            "told bell 0; row 0 ears 10; row 7 ears 5; sheaves 99; old at 0; sly at 1; old at 2", "minutes(1) 12", "rain() 2", "of(0, 4) 9",
            "ears(7, 0) 4", "of(1, 4) 2", "of(1, 5) 2", "of(2, 4) 0", "now(3) 97", "now(0) 1", "rain() 0");
        e.edge(15, "how many ears are gone, all together", "told bell 0; row 0 ears 10; row 7 ears 20", "9 times gleaner(3, 1, 0)", "set(0, 1, 0) 1", "set(8, 1, 7) 1",
            "minutes(1) 30", "rain() 3", "of(0, 4) 9", "of(8, 4) 18");
    }

    private static void day() {
        e.edge(16, "how many were DONE", "day() 0", "told bell 0; old at 7 place 7; old at 0", "day() 0", "where(0, 0) 70");
        e.edge(16, "MINUTE 0; all at PLACE 0 of their ROWS, ON, not DONE: how many were DONE.",
            "told bell 0; left 9; gleaner at 7 place 7 house 3; gleaner at 3 place 2 back", "minutes(5) *", "where(1, 0) 42", "of(1, 6) 0", "now(4) 1",
            "day() 1", "now(0) 0", "now(4) 0", "where(0, 0) 70", "of(0, 6) 0", "where(1, 0) 40", "of(1, 6) 0", "of(0, 3) 3", "of(0, 4) 5", "day() 0");
        e.edge(16, "MINUTE 0; all at PLACE 0 of their ROWS, ON, not DONE: how many were DONE.",
            "told bell 0; gleaner at 7 place 5 back; child at 1 place 3 back", "minutes(2) 0", "of(0, 6) 1", "of(1, 6) 1", "day() 0",
            "of(0, 6) 0", "of(1, 6) 0", "where(0, 0) 70", "where(1, 0) 10");
        e.edge(16, "MINUTE 0", "49 times minutes(200)", "minutes(199) 0", "minutes(1) STATE", "day() 0", "now(0) 0", "minutes(200) 0");
        e.edge(16, "how many were DONE", "told bell 0", "9 times gleaner(2, 7, 0)", "minutes(4) 0", "day() 9", "day() 0");
    }

    private static void now() {
        e.edge(17, "What 0 MINUTE, 1 BELL, 2 GEESE, 3 SHEAVES, 4 how many are DONE.",
            "told bell 0", "9 times gleaner(0, 7, 0)", "now(4) 0", "set(8, 2, 1) 0", "minutes(7) 0", "now(4) 1", "minutes(1) 0", "now(4) 9", "now(0) 8",
            "now(1) 0", "now(2) 9999", "now(3) 500");
        e.edge(17, "BEYOND.", "now(-1) BEYOND", "now(5) BEYOND", "now(MIN) BEYOND", "now(MAX) BEYOND");
    }
}
