/** Promises 24 to 30: where to begin, how many. */
public final class BeginTest {
    private static final Due d = new Due();

    public static void main(String[] args) {
        begin();
        best();
        alone();
        rival();
        may();
        leaveFor();
        ring();
        tooLate();
        d.end();
    }

    private static void begin() {
        d.promise(24);
        EarRows x = Due.told("bell 0; row 3 ears 5 5; old at 6 place 4 back");
        d.is("begin(0): all of rows 0 to 3 is on its way, the least row", x.begin(0), 0);
        x.turn(0, 2);
        d.is("begin(0): a quick one comes to place 1 of row 3 from even rows, to place 0 from odd ones", x.begin(0), 0);
        x.leave(3, 1, 0);
        d.is("begin(0): to place 0", x.begin(0), 1);
        EarRows y = Due.told("bell 136; row 5 ears 9; gleaner at 0");
        d.is("begin(0), in time", y.begin(0), 0);
        y.let(0, 190);
        d.is("begin(0), with ten minutes: to be at place 0 of row 5", y.begin(0), 5);
        EarRows z = Due.told("bell 0; row 7 ears 9; gleaner at 7 place 7; old at 7");
        z.minutes(2);
        z.leave(7, 0, 50);
        z.let(0, 195);
        d.is("DONE", z.of(0, 7), 1);
        d.is("begin(0) of one that is DONE: it isn't then", z.begin(0), 7);
        d.is("begin(2)", z.begin(2), Due.BEYOND);
        d.is("begin(-1)", z.begin(-1), Due.BEYOND);
        d.is("begin(0) where nothing is", Due.told("gleaner at 4").begin(0), 0);
        EarRows w = Due.told("bell 190; left 6; old at 0; gleaner at 0");
        d.is("begin(1), where no old one takes before it", w.begin(1), 1);
    }

    private static void best() {
        d.promise(25);
        EarRows x = Due.told("bell 0; left 20; child at 6; sheaves 0");
        d.is("best(0): old", x.best(0), 3);
        d.is("best(0) where nothing is", Due.told("widow at 6; sheaves 0").best(0), 0);
        d.is("best(0) with sheaves alone: sly", Due.told("widow at 6").best(0), 4);
        d.is("best(0) with single ears: gleaner before child and old", Due.told("left 1; old at 3; bell 0; sheaves 0").best(0), 0);
        EarRows y = Due.told("left 20; gleaner at 7 place 7; bell 0");
        y.minutes(1);
        d.is("best(0) of one that is DONE: all the same", y.best(0), 0);
        y.turn(0, 5);
        d.is("best(0) of a widow that is DONE", y.best(0), 0);
        d.is("best(1)", y.best(1), Due.BEYOND);
        d.is("best(-1)", y.best(-1), Due.BEYOND);
    }

    private static void alone() {
        d.promise(26);
        EarRows x = Due.told("left 10; bell 0; sheaves 3; old at 7; gleaner at 7; sly at 7");
        d.is("alone(0)", x.alone(0), 80);
        d.is("alone(1)", x.alone(1), 48);
        d.is("alone(2): places 0, 2, 4, 6, and 3 of sheaves", x.alone(2), 15);
        x.minutes(1);
        d.is("alone(1), with what it has", x.alone(1), 0 + 42);
        d.is("alone(3)", x.alone(3), Due.BEYOND);
        d.is("alone(-1)", x.alone(-1), Due.BEYOND);
        EarRows y = Due.told("left 10; gleaner at 7; gleaner at 7 place 7; bell 0");
        y.minutes(1);
        d.is("alone(1) of one that is DONE", y.alone(1), 6);
    }

    private static void rival() {
        d.promise(27);
        EarRows x = Due.told("left 10; bell 0; child at 7; gleaner at 7; gleaner at 7; old at 7; old at 0");
        d.is("rival(3): without 1 or 2 it has as much more, the least", x.rival(3), 1);
        d.is("rival(0): nobody takes before it", x.rival(0), Due.NONE);
        x.turn(1, 1);
        d.is("rival(3)", x.rival(3), 2);
        d.is("rival(2): half of 9 and half of 8 are the same", x.rival(2), Due.NONE);
        d.is("rival(5)", x.rival(5), Due.BEYOND);
        d.is("rival(-1)", x.rival(-1), Due.BEYOND);
        EarRows y = Due.told("bell 0; sheaves 6; sly at 0; sly at 0; quick at 0");
        d.is("rival(0): by drawing", y.rival(0), 1);
        d.is("rival(1): by drawing", y.rival(1), 0);
        d.is("rival(2)", y.rival(2), Due.NONE);
        x.on(3, 90);
        d.is("rival(3), behind another trial", x.rival(3), 2);
        d.is("rival(0) of one alone", Due.told("gleaner at 0").rival(0), Due.NONE);
    }

    private static void may() {
        d.promise(28);
        EarRows x = Due.told("left 10; bell 0; gleaner at 7; gleaner at 7; gleaner at 7");
        // 10 is shared 6, 3, 1 at each of 8 places.
        d.is("may(8)", x.may(8), 3);
        d.is("may(9)", x.may(9), 2);
        d.is("may(24)", x.may(24), 2);
        d.is("may(25)", x.may(25), 1);
        d.is("may(48)", x.may(48), 1);
        d.is("may(49)", x.may(49), 0);
        d.is("may(0)", x.may(0), 3);
        d.is("may(9999)", x.may(9999), 0);
        d.is("may(10000)", x.may(10000), Due.BEYOND);
        d.is("may(-1)", x.may(-1), Due.BEYOND);
        d.is("may(0), with nobody", new EarRows().may(0), 0);
        EarRows y = Due.told("left 10; bell 0; child at 7 place 7; old at 7 place 7");
        d.is("may(1)", y.may(1), 2);
        d.is("may(2)", y.may(2), 0);
        y.minutes(1);
        d.is("may(1), with what they have", y.may(1), 2);
        y.on(0, 200);
        d.is("may(9), behind another trial", y.may(9), 0);
        // The first takes 3 of 10, the old one the rest.
        EarRows z = Due.told("left 10; bell 0; quick at 7 place 7; old at 7 place 7; quick at 7 place 7");
        d.is("may(3): the third has nothing", z.may(3), 2);
    }

    private static void leaveFor() {
        d.promise(29);
        EarRows x = Due.told("left 50; bell 0; sheaves 0; old at 7");
        d.is("leaveFor(0)", x.leaveFor(0), 0);
        d.is("leaveFor(1)", x.leaveFor(1), 1);
        d.is("leaveFor(8)", x.leaveFor(8), 1);
        d.is("leaveFor(9)", x.leaveFor(9), 2);
        d.is("leaveFor(792)", x.leaveFor(792), 99);
        d.is("leaveFor(793)", x.leaveFor(793), Due.NONE);
        d.is("leaveFor(9999)", x.leaveFor(9999), Due.NONE);
        d.is("leaveFor(10000)", x.leaveFor(10000), Due.BEYOND);
        d.is("leaveFor(-1)", x.leaveFor(-1), Due.BEYOND);
        x.minutes(1);
        d.is("leaveFor(50), with what it has", x.leaveFor(50), 0);
        d.is("leaveFor(51), eight places yet", x.leaveFor(51), 1);
        d.is("leaveFor(58), place 0 it has taken from", x.leaveFor(58), 2);
        EarRows y = Due.told("bell 0; sheaves 5; sly at 7; child at 7");
        d.is("leaveFor(4): the sheaves do", y.leaveFor(4), 0);
        d.is("leaveFor(5)", y.leaveFor(5), 1);
        d.is("leaveFor(0), with nobody", new EarRows().leaveFor(0), 0);
        d.is("leaveFor(1), with nobody", new EarRows().leaveFor(1), Due.NONE);
    }

    private static void ring() {
        d.promise(30);
        EarRows x = Due.told("left 10; gleaner at 0; old at 1");
        d.is("ring(0, 0, 1)", x.ring(0, 0, 1), 999);
        d.is("ring(0, 6, 1)", x.ring(0, 6, 1), 0);
        d.is("ring(0, 6, 10)", x.ring(0, 6, 10), 9);
        d.is("ring(0, 7, 10)", x.ring(0, 7, 10), 8);
        d.is("ring(0, 7, 1)", x.ring(0, 7, 1), Due.NONE);
        d.is("ring(0, 384, 200)", Due.told("left 10; gleaner at 0").ring(0, 384, 200), 136);
        d.is("ring(0, 378, 200)", Due.told("left 10; gleaner at 0").ring(0, 378, 200), 137);
        d.is("ring(0, 9999, 200)", x.ring(0, 9999, 200), Due.NONE);
        d.is("ring(0, 0, 0)", x.ring(0, 0, 0), Due.BEYOND);
        d.is("ring(0, 0, 201)", x.ring(0, 0, 201), Due.BEYOND);
        d.is("ring(0, -1, 1)", x.ring(0, -1, 1), Due.BEYOND);
        d.is("ring(0, 10000, 1)", x.ring(0, 10000, 1), Due.BEYOND);
        d.is("ring(2, 0, 1)", x.ring(2, 0, 1), Due.BEYOND);
        d.is("ring(-1, 0, 1)", x.ring(-1, 0, 1), Due.BEYOND);
        // An old one goes on in even minutes alone: a bell of 1 and of 2 come to the same for 20.
        d.is("ring(1, 20, 3)", x.ring(1, 20, 3), 0);
        d.is("ring(1, 20, 4)", x.ring(1, 20, 4), 2);
        x.minutes(5);
        d.is("ring(0, 6, 1), at minute 5", x.ring(0, 6, 1), 5);
        d.is("ring(0, 1, 3), at minute 5", x.ring(0, 1, 3), 7);
        for (int i = 0; i < 5; i++) {
            x.let(0, 999);
            x.minutes(199);
        }
        d.is("minute", x.now(0), 1000);
        d.is("ring(0, 6, 1), all bells have rung", x.ring(0, 6, 1), 999);
        d.is("ring(0, 99, 1)", x.ring(0, 99, 1), Due.NONE);
        EarRows y = Due.told("left 10; gleaner at 0; bell 999");
        for (int i = 0; i < 9; i++) {
            y.minutes(100);
        }
        y.minutes(50);
        d.is("ring(0, 6, 100), at minute 950", y.ring(0, 6, 100), 999);
        d.is("ring(0, 306, 100): 51 places", y.ring(0, 306, 100), 999);
        d.is("ring(0, 307, 100)", y.ring(0, 307, 100), 998);
        d.is("ring(0, 9, 5), all ears that there are", Due.told("row 7 ears 9; sheaves 0; old at 7").ring(0, 9, 5), 4);
        // Geese are gone over rows 0 and 1 before a bell of 3.
        EarRows z = Due.told("left 10; gleaner at 0; geese 2");
        d.is("ring(0, 1, 9), with geese", z.ring(0, 1, 9), 1);
    }

    private static void tooLate() {
        EarRows x = OnTest.lateBy(1);
        d.promise(24);
        d.is("begin(0)", x.begin(0), Due.STATE);
        d.is("begin(2)", x.begin(2), Due.BEYOND);
        d.promise(25);
        d.is("best(0)", x.best(0), Due.STATE);
        d.is("best(2)", x.best(2), Due.BEYOND);
        d.promise(26);
        d.is("alone(0)", x.alone(0), Due.STATE);
        d.is("alone(2)", x.alone(2), Due.BEYOND);
        d.promise(27);
        d.is("rival(0)", x.rival(0), Due.STATE);
        d.is("rival(2)", x.rival(2), Due.BEYOND);
        d.promise(28);
        d.is("may(0)", x.may(0), Due.STATE);
        d.is("may(-1)", x.may(-1), Due.BEYOND);
        d.promise(29);
        d.is("leaveFor(0)", x.leaveFor(0), Due.STATE);
        d.is("leaveFor(-1)", x.leaveFor(-1), Due.BEYOND);
        d.promise(30);
        d.is("ring(0, 0, 200)", x.ring(0, 0, 200), Due.STATE);
        d.is("ring(0, -1, 200)", x.ring(0, -1, 200), Due.BEYOND);
        d.is("ring(0, 0, 199)", x.ring(0, 0, 199), 999);
        EarRows y = OnTest.lateBy(0);
        d.promise(24);
        d.is("begin(0) at minute 9799", y.begin(0) >= 0 ? 1 : 0, 1);
        d.promise(25);
        d.is("best(0) at minute 9799", y.best(0), 0);
        d.promise(26);
        d.is("alone(0) at minute 9799", y.alone(0), y.of(0, 4));
        d.promise(27);
        d.is("rival(0) at minute 9799", y.rival(0), Due.NONE);
        d.promise(28);
        d.is("may(0) at minute 9799", y.may(0), 2);
        d.promise(29);
        d.is("leaveFor(0) at minute 9799", y.leaveFor(0), 0);
    }
}
