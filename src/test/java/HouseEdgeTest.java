/** The edges of promises 31 to 35: houses, straw. */
public final class HouseEdgeTest {
    private static final Edges e = new Edges();

    public static void main(String[] args) {
        shared();
        over();
        rich();
        straw();
        heap();
        heapRefused();
        e.end(31, 35);
    }

    private static void shared() {
        e.edge(31, "SHARED by a HOUSE.", "told bell 0; left 1; row 0 ears 8", "9 times gleaner(3, 0, 4)", "shared(4) 0", "minutes(1) 8", "shared(4) 0",
            "set(0, 3, 0) 4", "shared(0) 8", "shared(4) 0", "told row 0 ears 0 9", "minutes(1) 9", "shared(0) 17", "set(8, 3, 0) 4", "shared(0) 8");
        e.edge(31, "NONE: nobody is of it.", "shared(0) NONE", "shared(4) NONE", "told old at 0 house 4", "shared(0) NONE", "shared(3) NONE", "shared(4) 0",
            "set(0, 3, 0) 4", "shared(4) NONE", "shared(0) 0");
        e.edge(31, "NONE: nobody is of it.", "image() 1", "told bell 0; left 9; old at 0", "minutes(1) 9", "shared(0) 9", "undo() 0", "shared(0) NONE");
        e.edge(31, "BEYOND.", "shared(-1) BEYOND", "shared(5) BEYOND", "told old at 0", "shared(-1) BEYOND", "shared(5) BEYOND", "shared(MIN) BEYOND",
            "shared(MAX) BEYOND");
    }

    private static void over() {
        e.edge(32, "What is left when a HOUSE has shared (its BUNDLES less SHARED times how many).", "told bell 0; row 0 ears 8", "9 times gleaner(3, 0, 4)",
            "over(4) 0", "minutes(1) 8", "over(4) 8", "told row 0 ears 0 1", "minutes(1) 1", "over(4) 0", "shared(4) 1", "leave(0, 1, 1) 0", "minutes(1) 1",
            "over(4) 1");
        e.edge(32, "NONE likewise.", "over(0) NONE", "told old at 0 house 4", "over(0) NONE", "over(3) NONE", "over(4) 0");
        e.edge(32, "BEYOND.", "over(-1) BEYOND", "over(5) BEYOND", "told old at 0", "over(-1) BEYOND", "over(5) BEYOND", "over(MIN) BEYOND", "over(MAX) BEYOND");
    }

    private static void rich() {
        e.edge(33, "The HOUSE that has SHARED most; of several the least.",
            "told bell 0; row 0 ears 9; row 1 ears 9; row 2 ears 9; old at 0 house 4; old at 1 house 3; old at 2 house 1",
            "rich() 1", "minutes(1) 27", "rich() 1", "lay(2) 9", "rich() 3", "lay(1) 9", "rich() 4", "lay(0) 9", "rich() 1", "gleaner(0, 0, 0) 3", "rich() 0");
        e.edge(33, "The HOUSE that has SHARED most", "told bell 0; row 0 ears 9; row 1 ears 9; row 2 ears 5; old at 0; old at 1; old at 3; old at 2 house 2",
            "minutes(1) 23", "shared(0) 6", "rich() 0", "gleaner(1, 0, 0) 4", "shared(0) 4", "rich() 2");
        e.edge(33, "NONE: there is nobody.", "rich() NONE", "image() 1", "gleaner(0, 0, 4) 0", "rich() 4", "undo() 0", "rich() NONE");
    }

    private static void straw() {
        // Bundles of 2 with 2 of sheaves, of 4 with 2, of 8 with 2, of 7 with none, of nothing.
        String some = "told bell 0; row 1 ears 6; row 2 ears 18; row 3 ears 7";
        String they = "told sly at 0; sly at 1; sly at 2; old at 3; old at 4";
        e.edge(34, "p hundredths (0 to 100) or more are CUT", some, they, "minutes(1) 21",
            "straw(0) 15", "straw(1) 7", "straw(25) 7", "straw(26) 3", "straw(50) 3", "straw(51) 1", "straw(100) 1");
        e.edge(34, "p hundredths (0 to 100) or more are CUT", some, they, "straw(-1) BEYOND", "straw(101) BEYOND", "straw(MIN) BEYOND", "straw(MAX) BEYOND");
        e.edge(34, "(of an empty one none)", "straw(0) 0", "straw(100) 0", "told sly at 0; sly at 1; bell 0", "straw(0) 0", "minutes(1) 4", "straw(0) 3",
            "lay(0) 2", "straw(0) 2", "straw(100) 2");
        e.edge(34, "as a set", "image() 1", "told bell 0; sly at 0; sly at 0", "minutes(1) 4", "straw(1) 3", "undo() 0", "straw(0) 0", "gleaner(4, 0, 0) 0",
            "straw(0) 0");
    }

    private static void heap() {
        // Of 60 ears, 58 of gleaner 0 and 2 of sheaves of gleaner 1.
        String sixty = "told bell 0; row 0 ears 58; old at 0; sly at 1; child at 2; old at 3";
        e.edge(35, "in how many parts of all ways to take n (C of BUNDLES and n) that is so", sixty, "minutes(1) 60",
            "heap(0, 1, 10, 0) 52179482355", "heap(0, 1, 10, 1) 21297747900", "heap(0, 1, 10, 2) 1916797311", "heap(0, 1, 10, 3) 0", "heap(0, 1, 10, 10) 0",
            "heap(1, 0, 10, 2) 1916797311", "heap(0, 1, 1, 0) 58", "heap(0, 1, 1, 1) 2");
        e.edge(35, "(0 to c to n, n 1 to 10)", sixty, "minutes(1) 60",
            "heap(0, 1, 0, 0) BEYOND", "heap(0, 1, 11, 0) BEYOND", "heap(0, 1, -1, 0) BEYOND", "heap(0, 1, MIN, 0) BEYOND", "heap(0, 1, MAX, 0) BEYOND",
            "heap(0, 1, 1, -1) BEYOND", "heap(0, 1, 1, 2) BEYOND", "heap(0, 1, 10, -1) BEYOND", "heap(0, 1, 10, 11) BEYOND", "heap(0, 1, 5, MIN) BEYOND",
            "heap(0, 1, 5, MAX) BEYOND", "heap(0, 1, -1, -1) BEYOND");
        e.edge(35, "SIZE: more than 60 ears.", sixty, "leave(2, 0, 1) 0", "minutes(1) 61", "heap(0, 2, 1, 0) 59", "heap(0, 1, 1, 0) 58",
            "leave(0, 1, 1) 0", "minutes(1) 1", "of(0, 4) 59", "heap(0, 2, 10, 0) 75394027566", "heap(0, 1, 1, 0) SIZE", "heap(1, 0, 10, 10) SIZE",
            "heap(0, 1, 11, 0) BEYOND", "heap(0, 1, 1, 2) BEYOND", "heap(0, 0, 1, 0) BEYOND", "lay(1) 2", "heap(0, 1, 1, 0) 59");
    }

    private static void heapRefused() {
        e.edge(35, "BEYOND (also one and the same; n; c; fewer ears than n).", "heap(0, 1, 1, 0) BEYOND", "told bell 0; sheaves 3; row 0 ears 18; sly at 0; sly at 1",
            "heap(0, 1, 1, 0) BEYOND", "minutes(1) 9", "heap(0, 1, 10, 0) BEYOND", "heap(0, 1, 9, 0) 0", "heap(0, 1, 9, 3) 1", "heap(0, 1, 9, 4) 0",
            "heap(0, 1, 9, 2) 0", "lay(0) 8", "heap(0, 1, 1, 1) 1", "heap(0, 1, 1, 0) 0", "heap(0, 1, 2, 1) BEYOND");
        e.edge(35, "BEYOND (also one and the same; n; c; fewer ears than n).", "told bell 0; left 20; old at 0; old at 1", "minutes(1) 40",
            "heap(0, 0, 1, 0) BEYOND", "heap(1, 1, 1, 0) BEYOND", "heap(-1, 0, 1, 0) BEYOND", "heap(0, -1, 1, 0) BEYOND", "heap(2, 0, 1, 0) BEYOND",
            "heap(0, 2, 1, 0) BEYOND", "heap(MIN, 0, 1, 0) BEYOND", "heap(0, MAX, 1, 0) BEYOND", "heap(2, 2, 1, 0) BEYOND", "heap(0, 1, 10, 0) 847660528");
    }
}
