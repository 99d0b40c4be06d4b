/** The edges of promises 45 to 49: images, counts, findings; and what stays of one that isn't there any more. */
public final class ImageEdgeTest {
    private static final Edges e = new Edges();

    public static void main(String[] args) {
        image();
        undo();
        tear();
        count();
        status();
        e.end(45, 49);
    }

    private static void image() {
        e.edge(45, "All that section 1 tells (THE TAPE not) is kept: 1.", "image() 1", "told left 9; bell 3; geese 4; sheaves 5; old at 0", "minutes(2) 0", "image() 1",
            "image() 1", "told left 1; bell 0; geese 0; sheaves 0; sly at 1", "minutes(9) *", "undo() 1", "left(-1) 576", "now(0) 2", "now(1) 3", "now(2) 4", "now(3) 5",
            "of(0, 4) 0");
        e.edge(45, "(THE TAPE not)", "fed bell 7", "image() 1", "wipe() 6", "undo() 0", "count(1) 0", "fed bell 8", "undo() 0", "count(1) 6", "text() 1", "now(1) 8");
        e.edge(45, "All that section 1 tells", "sheet(0, 8, 2) 2", "write(0, 1, 5) 0", "image() 1", "write(0, 1, 6) 5", "sheet(1, 16, 1) 1", "undo() 0", "write(0, 1, 6) 6",
            "write(1, 0, 0) 0", "sheet(0, 0, 0) 0", "undo() 0", "write(0, 0, 0) MISSING");
        e.edge(45, "All that section 1 tells", "told bell 0; left 9; sly at 7 place 6 house 2; gleaner at 2 place 5 back", "minutes(1) 10", "image() 1", "turn(0, 1) 4",
            "set(0, 1, 0) 7", "set(0, 2, 0) 7", "set(0, 3, 0) 2", "set(0, 6, 1) 0", "lay(0) 5", "set(1, 6, 0) 1", "minutes(3) *", "day() 0", "rain() *", "undo() 2",
            "of(0, 0) 4", "of(0, 1) 7", "of(0, 2) 7", "of(0, 3) 2", "of(0, 4) 5", "of(0, 5) 2", "of(0, 6) 0", "of(0, 7) 1", "of(1, 2) 4", "of(1, 6) 1", "now(4) 1",
            "ears(7, 6) 6", "left(-1) 568");
    }

    private static void undo() {
        e.edge(46, "NONE: nothing is kept.", "told left 9; old at 0", "undo() NONE", "left(-1) 576", "image() 1", "undo() 1", "tear() 1", "undo() NONE", "count(0) 1");
        e.edge(46, "It becomes what was kept latest (which stays): how many GLEANERS.", "image() 1", "9 times gleaner(0, 0, 0)", "undo() 0", "count(0) 0", "gleaner(1, 2, 3) 0",
            "of(0, 0) 1", "undo() 0", "count(0) 0");
        e.edge(46, "It becomes what was kept latest (which stays)", "9 times gleaner(0, 0, 0)", "image() 1", "leave(0, 0, 5) 0", "undo() 9", "ears(0, 0) 0", "leave(0, 0, 6) 0",
            "undo() 9", "ears(0, 0) 0", "image() 1", "leave(7, 7, 1) 0", "image() 1", "leave(7, 7, 2) 1", "undo() 9", "ears(7, 7) 1");
        // One that is no more there has no share in anything.
        String[] gone = {"told bell 0; row 0 ears 3; sly at 0 house 1", "minutes(2) 3", "image() 1", "told row 6 ears 90; sly at 7 place 7 house 2; old at 6 house 2",
            "told gleaner at 3 place 5 back", "minutes(1) 94", "of(1, 5) 2", "of(1, 7) 1", "of(3, 2) 4", "undo() 1"};
        e.edge(46, "how many GLEANERS", Edges.with(gone, "count(0) 1", "count(2) 3", "count(3) 2", "now(4) 0", "straw(0) 1", "rich() 1", "shared(2) NONE", "over(2) NONE",
            "shared(0) NONE", "of(1, 0) BEYOND", "heap(0, 1, 1, 0) BEYOND", "meet(0, 1) BEYOND"));
        e.edge(46, "how many GLEANERS", Edges.with(gone, "most() 0", "may(0) 1", "rival(0) NONE", "rain() 0", "day() 0", "sheet(0, 8, 3) 3", "book(0, 0) 1", "read(0, 0) 2",
            "gleaner(0, 1, 4) 1", "of(1, 2) 0", "of(1, 4) 0", "of(1, 5) 0", "of(1, 7) 0", "of(1, 3) 4", "2 times gleaner(3, 2, 1)", "of(2, 4) 0", "of(3, 2) 0",
            "of(3, 6) 0"));
        e.edge(46, "how many GLEANERS", Edges.with(gone, "told old at 1", "of(1, 0) 3", "of(1, 4) 0", "of(1, 5) 0", "of(1, 7) 0", "of(1, 2) 0", "undo() 1"));
    }

    private static void tear() {
        e.edge(47, "Nothing is kept: 1 if something was, else 0.", "tear() 0", "image() 1", "tear() 1", "tear() 0", "undo() NONE", "image() 1", "image() 1", "tear() 1",
            "tear() 0", "undo() NONE", "image() 1", "undo() 0", "tear() 1");
    }

    private static void count() {
        e.edge(48, "0 GLEANERS, 1 bytes of THE TAPE, 2 BUNDLES of all together, 3 CUT of all.", "count(0) 0", "count(1) 0", "count(2) 0", "count(3) 0", "told bell 0; left 99",
            "9 times gleaner(4, 0, 0)", "count(0) 9", "minutes(1) *", "count(3) 18", "30 times feed(0, 4)", "count(1) 120", "text() -1", "count(1) 0", "lay(8) *",
            "count(3) 16");
        e.edge(48, "2 BUNDLES of all together", "told bell 0; row 0 ears 99", "9 times gleaner(1, 0, 0)", "minutes(1) 9", "count(2) 9", "count(3) 0", "lay(8) 1", "count(2) 8");
        e.edge(48, "BEYOND: another what.", "count(-1) BEYOND", "count(4) BEYOND", "count(MIN) BEYOND", "count(MAX) BEYOND");
    }

    private static void status() {
        e.edge(49, "which -1: all, 0 to 6: BEYOND to SIZE.", "status(-1) 0", "status(0) 0", "status(6) 0", "sheet(0, 8, -1) SIZE", "status(6) 1", "status(0) 0", "status(-1) 1",
            "ears(8, 0) BEYOND", "status(0) 1", "status(6) 1", "status(-1) 2", "write(0, 0, 0) MISSING", "status(5) 1", "undo() NONE", "status(3) 1", "gleaner(0, 0, 0) 0",
            "as(0, 1) KIND", "status(2) 1", "8 times gleaner(0, 0, 0)", "gleaner(0, 0, 0) FULL", "status(1) 1", "status(4) 0", "status(-1) 6");
        e.edge(49, "which -1: all, 0 to 6: BEYOND to SIZE.", "49 times minutes(200)", "minutes(200) STATE", "status(4) 1", "after() STATE", "status(4) 2", "status(-1) 2");
        e.edge(49, "(undo() takes none back)", "image() 1", "ears(8, 0) BEYOND", "undo() 0", "status(0) 1", "tear() 1", "undo() NONE", "status(3) 1", "status(-1) 2");
        e.edge(49, "BEYOND (counted from then on): another one.", "status(7) BEYOND", "status(0) 1", "status(-2) BEYOND", "status(0) 2", "status(-1) 2", "status(MIN) BEYOND",
            "status(MAX) BEYOND", "status(-1) 4");
        e.edge(49, "How many acts answered a finding ever", "300 times image()", "40 times ears(7, 7)", "ears(8, 8) BEYOND", "status(-1) 1", "fed x", "text() -1", "status(-1) 1");
    }
}
