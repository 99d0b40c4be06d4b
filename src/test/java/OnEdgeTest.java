/** The edges of promises 18 to 30: on, where to begin, how many. */
public final class OnEdgeTest {
    private static final String STATE_LIKEWISE = "STATE likewise.";
    private static final Edges e = new Edges();

    public static void main(String[] args) {
        on();
        where();
        done();
        after();
        most();
        meet();
        begin();
        best();
        alone();
        rival();
        may();
        leaveFor();
        ring();
        e.end(18, 30);
    }

    /** A field told at minute 9799: what is due there, what a minute later, and what else is due then. */
    private static void late(int promise, String words, String text, String last, String tooLate, String... also) {
        String[] before = {"48 times minutes(200)", "minutes(199) *", "told " + text, "now(0) 9799", last, "minutes(1) *", "now(0) 9800", tooLate};
        e.edge(promise, words, Edges.with(before, also));
    }

    private static void on() {
        e.edge(18, "BUNDLE of a GLEANER ON n MINUTES (0 to 200).", "told left 9; bell 0; gleaner at 0",
            "on(0, 0) 0", "on(0, 1) 5", "on(0, 63) 315", "on(0, 64) 320", "on(0, 200) 320",
            "on(0, -1) BEYOND", "on(0, 201) BEYOND", "on(0, MIN) BEYOND", "on(0, MAX) BEYOND");
        e.edge(18, "BEYOND.", "on(0, 0) BEYOND", "told old at 0", "on(-1, 0) BEYOND", "on(1, 0) BEYOND", "on(MIN, 0) BEYOND", "on(MAX, 0) BEYOND");
        e.edge(18, "STATE: MINUTE would be above 9999.", "49 times minutes(200)", "told left 9; bell 0; gleaner at 7",
            "on(0, 199) 40", "on(0, 200) STATE", "on(0, 201) BEYOND", "on(0, -1) BEYOND", "on(1, 200) BEYOND", "minutes(199) 40",
            "on(0, 0) 40", "on(0, 1) STATE", "on(1, 1) BEYOND");
    }

    private static void where() {
        e.edge(19, "Where a GLEANER is ON n MINUTES (0 to 200): 10 times ROW, and PLACE.", "told bell 0; gleaner at 0; gleaner at 7 place 7",
            "where(0, 0) 0", "where(0, 7) 7", "where(0, 8) 17", "where(0, 63) 70", "where(0, 200) 70", "where(1, 0) 77", "where(1, 200) 77",
            "where(0, -1) BEYOND", "where(0, 201) BEYOND", "where(0, MIN) BEYOND", "where(0, MAX) BEYOND");
        e.edge(19, "BEYOND.", "where(0, 0) BEYOND", "told old at 0",
            "where(-1, 0) BEYOND", "where(1, 0) BEYOND", "where(MIN, 0) BEYOND", "where(MAX, 0) BEYOND");
        e.edge(19, STATE_LIKEWISE, "49 times minutes(200)", "told bell 0; gleaner at 7",
            "where(0, 199) 77", "where(0, 200) STATE", "where(0, 201) BEYOND", "where(1, 200) BEYOND", "minutes(199) 0",
            "where(0, 0) 77", "where(0, 1) STATE", "where(0, -1) BEYOND");
    }

    private static void done() {
        e.edge(20, "In how many MINUTES (0 to 200) ON a GLEANER is DONE.", "told bell 0; gleaner at 7 place 7; quick at 7 place 5 back",
            "done(0) 1", "done(1) 3", "minutes(1) 0", "done(0) 0", "done(1) 2", "minutes(2) 0", "done(1) 0");
        e.edge(20, "In how many MINUTES (0 to 200) ON a GLEANER is DONE.", "told bell 136; gleaner at 0", "done(0) 200", "let(0, 137) 136", "done(0) NONE");
        e.edge(20, "NONE.", "told bell 198; old at 7 place 7", "done(0) 199", "let(0, 199) 198", "done(0) NONE", "minutes(1) 0", "done(0) 200");
        e.edge(20, "BEYOND.", "done(0) BEYOND", "told old at 0", "done(-1) BEYOND", "done(1) BEYOND", "done(MIN) BEYOND", "done(MAX) BEYOND");
        late(20, "STATE: MINUTE is above 9799.", "bell 0; gleaner at 7", "done(0) 8", "done(0) STATE", "done(1) BEYOND", "done(-1) BEYOND");
        late(20, "STATE: MINUTE is above 9799.", "bell 0; gleaner at 7 place 7", "done(0) 1", "done(0) STATE", "now(4) 1", "day() 1", "done(0) 8");
    }

    private static void after() {
        e.edge(21, "EARS left in the FIELD TO THE END.", "after() 0", "told left 9; bell 0", "after() 576", "told gleaner at 7 place 7", "after() 571",
            "minutes(1) 5", "after() 571");
        e.edge(21, "EARS left in the FIELD TO THE END.", "told left 1; bell 136; gleaner at 0", "after() 0", "let(0, 137) 136", "after() 1",
            "let(0, 199) 137", "after() 63", "let(0, 200) 199", "after() 64", "now(0) 0", "left(-1) 64");
        late(21, STATE_LIKEWISE, "left 9", "after() 576", "after() STATE");
        late(21, STATE_LIKEWISE, "left 9; bell 0; gleaner at 7", "after() 536", "after() STATE");
    }

    private static void most() {
        e.edge(22, "The GLEANER with the greatest BUNDLE TO THE END; of several the least.", "told bell 0; row 7 ears 9", "9 times gleaner(1, 0, 0)",
            "most() 0", "turn(8, 3) 1", "set(8, 1, 7) 0", "most() 8", "rake(7) 9", "most() 0");
        e.edge(22, "of several the least", "told bell 0; left 9; child at 7; old at 5; old at 5", "most() 1", "turn(1, 1) 3", "most() 2");
        e.edge(22, "of several the least", "told bell 0; row 6 ears 5; row 7 ears 5; child at 0; old at 6; old at 7", "most() 1", "leave(7, 0, 6) 5", "most() 2");
        e.edge(22, "NONE: there is none.", "most() NONE", "told left 9; bell 0", "most() NONE", "gleaner(1, 7, 0) 0", "most() 0");
        late(22, STATE_LIKEWISE, "left 9; bell 0; old at 7 place 7; old at 6", "most() 1", "most() STATE");
        e.edge(22, STATE_LIKEWISE, "49 times minutes(200)", "most() STATE", "day() 0", "most() NONE");
    }

    private static void meet() {
        e.edge(23, "In how many MINUTES (0 to 200) ON two GLEANERS are at one PLACE first.",
            "told bell 199; gleaner at 0; gleaner at 0 place 2 back; gleaner at 0", "meet(0, 2) 0", "meet(0, 1) 200", "meet(1, 0) 200",
            "let(0, 200) 199", "meet(0, 1) NONE", "meet(1, 0) NONE", "meet(2, 0) 0");
        e.edge(23, "NONE.", "told bell 0; gleaner at 0; gleaner at 1; gleaner at 0 place 1; gleaner at 0 place 1 back",
            "meet(0, 1) 56", "meet(0, 2) 63", "meet(0, 3) NONE", "let(0, 200) 0", "meet(0, 1) NONE", "meet(2, 3) 0");
        e.edge(23, "BEYOND (also one and the same).", "meet(0, 0) BEYOND", "meet(0, 1) BEYOND", "told old at 0; old at 0",
            "meet(0, 0) BEYOND", "meet(1, 1) BEYOND", "meet(0, 2) BEYOND", "meet(2, 0) BEYOND", "meet(-1, 0) BEYOND", "meet(0, -1) BEYOND",
            "meet(MIN, 0) BEYOND", "meet(0, MAX) BEYOND", "meet(2, 2) BEYOND");
        late(23, STATE_LIKEWISE, "bell 0; gleaner at 7; gleaner at 7 place 7", "meet(0, 1) 7", "meet(0, 1) STATE", "meet(0, 0) BEYOND", "meet(0, 2) BEYOND");
        late(23, STATE_LIKEWISE, "bell 0; gleaner at 7 place 0 back; gleaner at 7 place 7", "meet(0, 1) NONE", "meet(0, 1) STATE");
    }

    private static void begin() {
        e.edge(24, "The ROW at whose PLACE 0, ON, a GLEANER should be now so that its BUNDLE is greatest TO THE END",
            "told bell 199; row 7 ears 9; gleaner at 3 place 3 back", "begin(0) 7", "let(0, 200) 199", "begin(0) 0", "where(0, 0) 33", "of(0, 6) 1");
        e.edge(24, "of several the least", "told gleaner at 4", "begin(0) 0", "told bell 199; row 7 ears 9; row 6 ears 9", "begin(0) 6",
            "leave(0, 0, 9) 0", "begin(0) 0", "leave(7, 0, 11) 9", "begin(0) 7");
        e.edge(24, "of several the least", "told left 9; bell 0; gleaner at 7 place 7", "minutes(1) 5", "of(0, 7) 1", "told left 0; row 7 ears 9; bell 200",
            "begin(0) 7", "of(0, 7) 1");
        e.edge(24, "BEYOND.", "begin(0) BEYOND", "told old at 0", "begin(-1) BEYOND", "begin(1) BEYOND", "begin(MIN) BEYOND", "begin(MAX) BEYOND");
        late(24, STATE_LIKEWISE, "bell 0; row 7 ears 9; quick at 3", "begin(0) 1", "begin(0) STATE", "begin(1) BEYOND", "begin(-1) BEYOND");
    }

    private static void best() {
        e.edge(25, "The KIND as one of which a GLEANER has the greatest BUNDLE TO THE END",
            "told bell 190; sheaves 0; row 2 ears 0 0 9; widow at 0", "best(0) 2", "let(2, 1) 0", "best(0) 4", "let(2, 0) 1", "told row 2 ears 0 0 0 0 9",
            "best(0) 0", "of(0, 0) 5");
        e.edge(25, "of several the least", "told sheaves 0; widow at 6", "best(0) 0", "told left 1", "best(0) 0", "told left 9", "best(0) 3",
            "told left 0; sheaves 1", "best(0) 4", "let(0, 199) 10", "best(0) 0");
        e.edge(25, "of several the least", "told left 9; bell 0; widow at 7 place 7", "minutes(1) 9", "told left 9", "best(0) 0");
        e.edge(25, "BEYOND.", "best(0) BEYOND", "told old at 0", "best(-1) BEYOND", "best(1) BEYOND", "best(MIN) BEYOND", "best(MAX) BEYOND");
        late(25, STATE_LIKEWISE, "left 9; bell 0; quick at 3", "best(0) 3", "best(0) STATE", "best(1) BEYOND", "best(-1) BEYOND");
    }

    private static void alone() {
        e.edge(26, "What the BUNDLE of a GLEANER would be TO THE END, were it here alone.",
            "told bell 0; left 9; sheaves 2; old at 7; sly at 7; gleaner at 7", "alone(0) 72", "alone(1) 14", "alone(2) 40", "let(0, 199) 0", "alone(2) 5",
            "let(0, 200) 199", "alone(2) 0", "alone(0) 0");
        e.edge(26, "were it here alone", "told bell 0; left 9; sheaves 2; sly at 7; sly at 7; old at 7 place 7", "minutes(1) 16", "alone(1) 11", "alone(2) 9",
            "told left 9", "alone(2) 9");
        e.edge(26, "were it here alone", "told left 9; bell 0", "9 times gleaner(3, 7, 0)", "alone(0) 72", "alone(8) 72", "on(8, 200) 0");
        e.edge(26, "BEYOND.", "alone(0) BEYOND", "told old at 0", "alone(-1) BEYOND", "alone(1) BEYOND", "alone(MIN) BEYOND", "alone(MAX) BEYOND");
        late(26, STATE_LIKEWISE, "left 9; bell 0; old at 7; gleaner at 7", "alone(1) 40", "alone(1) STATE", "alone(2) BEYOND", "alone(-1) BEYOND");
    }

    private static void rival() {
        e.edge(27, "another one's BUNDLE is greatest TO THE END, and greater than with it; of several the least",
            "told left 9; bell 0; old at 7; old at 7; old at 7; child at 0", "rival(0) NONE", "rival(1) 0", "rival(2) NONE");
        e.edge(27, "of several the least", "told left 9; bell 0; sheaves 0; child at 7; child at 7; child at 7; old at 7", "rival(3) 0", "turn(2, 2) 1",
            "rival(3) 2", "turn(1, 2) 1", "rival(3) 1", "rival(0) NONE");
        e.edge(27, "(not taking, not drawing)", "told bell 0; sheaves 2; sly at 7; sly at 7", "rival(0) NONE", "rival(1) 0", "let(2, 20) 2", "rival(1) NONE");
        e.edge(27, "NONE.", "told left 9; bell 0; old at 7", "rival(0) NONE", "leaveFor(9999) NONE", "rival(0) NONE");
        e.edge(27, "greater than with it", "told left 9; bell 0; gleaner at 7; gleaner at 7", "rival(1) 0", "leaveFor(9999) NONE", "rival(1) 0", "rival(0) NONE");
        e.edge(27, "The GLEANER without whom", "told left 9; bell 0", "9 times gleaner(1, 7, 0)", "turn(7, 3) 1", "rival(8) 7", "turn(8, 3) 1", "rival(7) 0",
            "turn(7, 1) 3", "rival(8) 0");
        e.edge(27, "BEYOND.", "rival(0) BEYOND", "told old at 0; old at 0",
            "rival(-1) BEYOND", "rival(2) BEYOND", "rival(MIN) BEYOND", "rival(MAX) BEYOND");
        late(27, STATE_LIKEWISE, "left 9; bell 0; old at 7; gleaner at 7", "rival(1) 0", "rival(1) STATE", "rival(0) STATE", "rival(2) BEYOND", "rival(-1) BEYOND");
    }

    private static void may() {
        e.edge(28, "so that each of these has v (0 to 9999) or more TO THE END", "told left 9; bell 0; old at 7; child at 0",
            "may(0) 2", "may(1) 2", "may(56) 2", "may(57) 1", "may(72) 1", "may(73) 0", "may(9999) 0",
            "may(10000) BEYOND", "may(-1) BEYOND", "may(MIN) BEYOND", "may(MAX) BEYOND");
        e.edge(28, "(the others not there)", "told left 9; bell 0; gleaner at 6; old at 7", "may(80) 1", "may(81) 0", "on(0, 200) 50");
        e.edge(28, "the greatest number of which that is so", "told left 9; bell 0", "9 times gleaner(3, 7, 0)", "may(0) 9", "may(1) 1", "set(8, 1, 6) 7", "may(1) 1");
        e.edge(28, "the greatest number of which that is so", "told left 9; bell 0; old at 7; old at 6", "leaveFor(9999) NONE", "may(72) 2", "may(73) 0", "may(72) 2");
        e.edge(28, "0 if of none", "may(0) 0", "may(9999) 0", "told left 9; bell 200; old at 0", "may(1) 0", "may(0) 1");
        e.edge(28, "each of these has v (0 to 9999) or more TO THE END", "told left 99; bell 0; old at 0", "minutes(127) 6336", "day() 1", "set(0, 1, 0) 7", "told left 99",
            "minutes(127) 6336", "may(9999) 1", "told left 0", "may(9999) 1");
        late(28, STATE_LIKEWISE, "left 9; bell 0; old at 7; gleaner at 7", "may(72) 1", "may(0) STATE", "may(-1) BEYOND", "may(10000) BEYOND");
    }

    private static void leaveFor() {
        e.edge(29, "The least number (0 to 99) of EARS at each PLACE (all as many)", "told left 50; bell 0; sheaves 0; old at 7",
            "leaveFor(0) 0", "leaveFor(1) 1", "leaveFor(8) 1", "leaveFor(9) 2", "leaveFor(784) 98", "leaveFor(785) 99", "leaveFor(792) 99",
            "leaveFor(793) NONE", "left(-1) 3200");
        e.edge(29, "v (0 to 9999) or more", "told sheaves 0; old at 7",
            "leaveFor(-1) BEYOND", "leaveFor(10000) BEYOND", "leaveFor(9999) NONE", "leaveFor(MIN) BEYOND", "leaveFor(MAX) BEYOND");
        e.edge(29, "v (0 to 9999) or more", "told left 99; bell 0; old at 0", "minutes(127) 6336", "day() 1", "set(0, 1, 0) 7", "leaveFor(6336) 0", "leaveFor(6337) 1",
            "leaveFor(6400) 1", "leaveFor(6401) 2", "leaveFor(9999) 58");
        e.edge(29, "NONE.", "leaveFor(0) 0", "leaveFor(1) NONE", "told bell 200; old at 0", "leaveFor(0) 0", "leaveFor(1) NONE", "let(0, 199) 200",
            "leaveFor(1) 1", "leaveFor(99) 99", "leaveFor(100) NONE");
        e.edge(29, "all BUNDLES TO THE END together", "told bell 0; sheaves 2; sly at 7; gleaner at 6 place 7", "leaveFor(2) 0", "leaveFor(3) 1", "leaveFor(2) 0");
        late(29, STATE_LIKEWISE, "bell 0; sheaves 0; old at 7", "leaveFor(9) 2", "leaveFor(9) STATE", "leaveFor(9999) STATE", "leaveFor(0) STATE",
            "leaveFor(-1) BEYOND", "leaveFor(10000) BEYOND");
    }

    private static void ring() {
        e.edge(30, "The latest BELL (0 to 999)", "told left 9; gleaner at 0",
            "ring(0, 0, 1) 999", "ring(0, 0, 200) 999", "ring(0, 5, 1) 0", "ring(0, 5, 2) 1", "ring(0, 6, 2) 0", "ring(0, 5, 200) 199", "ring(0, 320, 200) 136",
            "now(1) 10");
        e.edge(30, "NONE.", "told left 9; gleaner at 0", "ring(0, 6, 1) NONE", "ring(0, 11, 2) NONE", "ring(0, 321, 200) NONE", "ring(0, 9999, 200) NONE");
        e.edge(30, "ON n MINUTES (1 to 200) is v (0 to 9999) or more", "told left 9; gleaner at 0",
            "ring(0, 0, 0) BEYOND", "ring(0, 0, -1) BEYOND", "ring(0, 0, 201) BEYOND", "ring(0, 0, MIN) BEYOND", "ring(0, 0, MAX) BEYOND",
            "ring(0, -1, 1) BEYOND", "ring(0, 10000, 1) BEYOND", "ring(0, MIN, 1) BEYOND", "ring(0, MAX, 1) BEYOND");
        e.edge(30, "ON n MINUTES (1 to 200) is v (0 to 9999) or more", "told left 99; bell 0; old at 0", "minutes(127) 6336", "day() 1", "set(0, 1, 0) 7", "told left 99",
            "minutes(127) 6336", "ring(0, 9999, 1) 999");
        e.edge(30, "BEYOND.", "ring(0, 0, 1) BEYOND", "told old at 0", "ring(-1, 0, 1) BEYOND", "ring(1, 0, 1) BEYOND", "ring(MIN, 0, 1) BEYOND",
            "ring(MAX, 0, 1) BEYOND");
        e.edge(30, "The latest BELL (0 to 999)", "told bell 999", "4 times minutes(200)", "minutes(198) 0", "told left 9; gleaner at 0",
            "ring(0, 5, 1) 998", "ring(0, 5, 2) 999", "ring(0, 6, 2) 998", "ring(0, 5, 3) 999", "ring(0, 10, 3) 999", "ring(0, 15, 3) 998",
            "ring(0, 16, 3) NONE", "minutes(1) 0", "ring(0, 5, 1) 999", "ring(0, 6, 1) NONE");
        e.edge(30, "The latest BELL (0 to 999)", "5 times minutes(200)", "told left 9; gleaner at 0; bell 999", "ring(0, 5, 1) 999", "ring(0, 6, 1) NONE");
        e.edge(30, "The latest BELL (0 to 999)", "told left 9; gleaner at 0; geese 3", "ring(0, 1, 9) 2", "ring(0, 6, 9) 1", "ring(0, 10, 9) 1", "ring(0, 15, 9) 0",
            "ring(0, 16, 9) NONE");
        e.edge(30, "is v (0 to 9999) or more", "told row 7 ears 9; sheaves 0; old at 7", "ring(0, 9, 5) 4", "ring(0, 10, 5) NONE", "ring(0, 9, 1) 0");
        e.edge(30, "STATE: MINUTE would be above 9999.", "49 times minutes(200)", "told left 9; gleaner at 7", "ring(0, 40, 199) 999", "ring(0, 41, 199) NONE",
            "ring(0, 0, 200) STATE", "ring(0, 9999, 200) STATE", "ring(0, 0, 201) BEYOND", "ring(0, -1, 200) BEYOND", "ring(1, 0, 200) BEYOND",
            "minutes(199) 40", "ring(0, 0, 1) STATE", "ring(0, 0, 0) BEYOND");
    }
}
