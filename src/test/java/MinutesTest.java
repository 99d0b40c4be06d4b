/** Promises 14 to 17: minutes. */
public final class MinutesTest {
    private static final Due d = new Due();

    public static void main(String[] args) {
        taking();
        drawing();
        going();
        geeseAndBell();
        minutesRefused();
        rain();
        day();
        now();
        d.end();
    }

    private static void taking() {
        d.promise(14);
        EarRows x = Due.told("left 10; bell 0; gleaner at 0; gleaner at 0; old at 0; child at 0");
        d.is("minutes(1)", x.minutes(1), 10);
        d.is("the first takes half of 10 and 1", x.of(0, 4), 6);
        d.is("the second half of 4 and 1", x.of(1, 4), 3);
        d.is("the third what is left", x.of(2, 4), 1);
        d.is("the fourth nothing", x.of(3, 4), 0);
        d.is("ears(0, 0)", x.ears(0, 0), 0);
        d.is("left(-1)", x.left(-1), 630);
        d.is("minutes(2)", x.minutes(2), 20);
        d.is("the third, a minute slower, finds nothing more", x.of(2, 4), 2);
        d.is("where the third is", x.where(2, 0), 2);
        d.is("where the first is", x.where(0, 0), 3);
    }

    private static void drawing() {
        d.promise(14);
        EarRows x = Due.told("bell 0; sheaves 5; sly at 0; sly at 1; sly at 2; quick at 3");
        d.is("minutes(1)", x.minutes(1), 5);
        d.is("of(0, 5)", x.of(0, 5), 2);
        d.is("of(1, 5)", x.of(1, 5), 2);
        d.is("of(2, 5)", x.of(2, 5), 1);
        d.is("of(2, 4)", x.of(2, 4), 1);
        d.is("of(3, 4)", x.of(3, 4), 0);
        d.is("sheaves", x.now(3), 0);
        x.let(2, 9);
        d.is("an odd minute", x.minutes(1), 0);
        d.is("sheaves", x.now(3), 9);
        d.is("an even one", x.minutes(1), 6);
        d.is("sheaves", x.now(3), 3);
    }

    private static void going() {
        d.promise(14);
        EarRows x = Due.told("bell 0; gleaner at 0; quick at 0 place 6; old at 6 place 0 back; gleaner at 7 place 1 back",
            "quick at 7 place 6");
        x.minutes(1);
        d.is("gleaner", place(x, 0), 10);
        d.is("quick, round the end of its row", place(x, 1), 171);
        d.is("old, from place 0 back", place(x, 2), 700);
        d.is("gleaner, back", place(x, 3), 701);
        d.is("quick at the last place, not done before it goes from there", place(x, 4), 772);
        x.minutes(1);
        d.is("gleaner", place(x, 0), 20);
        d.is("quick", place(x, 1), 151);
        d.is("old stays in an odd minute", place(x, 2), 700);
        d.is("gleaner, done", place(x, 3), 703);
        x.minutes(6);
        d.is("gleaner at the next row", place(x, 0), 171);
        d.is("gleaner, done, stays", place(x, 3), 703);
        d.is("done ones", x.now(4), 2);
    }

    /** 100 times ROW, 10 times PLACE, 2 if DONE, 1 if BACK. */
    private static int place(EarRows x, int gleaner) {
        return 100 * x.of(gleaner, 1) + 10 * x.of(gleaner, 2) + 2 * x.of(gleaner, 7) + x.of(gleaner, 6);
    }

    private static void geeseAndBell() {
        d.promise(14);
        EarRows x = Due.told("left 10; geese 1; bell 3; old at 0; old at 2");
        d.is("minutes(1)", x.minutes(1), 0);
        d.is("before the geese", x.left(-1), 640);
        d.is("minutes(1)", x.minutes(1), 0);
        d.is("left(0)", x.left(0), 0);
        d.is("left(1)", x.left(1), 0);
        d.is("left(2)", x.left(2), 80);
        x.leave(0, 0, 4);
        d.is("minutes(1), before the bell", x.minutes(1), 0);
        d.is("at the bell", x.minutes(1), 14);
        d.is("behind it", x.of(1, 4), 10);
        d.is("old ones don't go in minute 3", x.where(1, 0), 20);
        EarRows y = Due.told("left 10; geese 0; bell 0; old at 0");
        d.is("geese come before the taking", y.minutes(1), 0);
        EarRows z = Due.told("left 10; geese 5; bell 0");
        z.minutes(5);
        d.is("geese, not yet", z.left(0), 80);
        z.minutes(1);
        d.is("geese, now", z.left(0), 0);
    }

    private static void minutesRefused() {
        d.promise(14);
        EarRows x = Due.told("left 10; bell 0; old at 0");
        d.is("minutes(0)", x.minutes(0), Due.BEYOND);
        d.is("minutes(-1)", x.minutes(-1), Due.BEYOND);
        d.is("minutes(201)", x.minutes(201), Due.BEYOND);
        d.is("minute", x.now(0), 0);
        for (int i = 0; i < 49; i++) {
            x.minutes(200);
        }
        d.is("minute", x.now(0), 9800);
        d.is("minutes(200)", x.minutes(200), Due.STATE);
        d.is("minutes(201)", x.minutes(201), Due.BEYOND);
        d.is("minutes(199)", x.minutes(199), 0);
        d.is("minute", x.now(0), 9999);
        d.is("minutes(1)", x.minutes(1), Due.STATE);
        d.is("minute", x.now(0), 9999);
    }

    private static void rain() {
        d.promise(15);
        EarRows x = Due.told("row 0 ears 99 4 5 9; row 7 ears 10; bell 0; sheaves 99", "old at 0; sly at 7; old at 0 place 1");
        x.minutes(1);
        d.is("ears left", x.left(-1), 5 + 9 + 7);
        d.is("bundle", x.of(0, 4), 99);
        d.is("bundle", x.of(1, 4), 5);
        d.is("rain()", x.rain(), 1 + 1 + 1 + 9);
        d.is("ears(0, 2)", x.ears(0, 2), 4);
        d.is("ears(0, 3)", x.ears(0, 3), 8);
        d.is("ears(7, 0)", x.ears(7, 0), 6);
        d.is("bundle", x.of(0, 4), 90);
        d.is("bundle", x.of(1, 4), 5);
        d.is("bundle", x.of(2, 4), 4);
        d.is("cut", x.of(1, 5), 2);
        d.is("sheaves", x.now(3), 97);
        d.is("minute", x.now(0), 1);
        EarRows y = Due.told("bell 0; sly at 0; sheaves 25");
        y.minutes(32);
        d.is("cut", y.of(0, 5), 25);
        d.is("rain()", y.rain(), 2);
        d.is("cut", y.of(0, 5), 23);
        d.is("bundle", y.of(0, 4), 23);
        EarRows z = Due.told("bell 0; row 0 ears 5; row 7 ears 10; sheaves 10; old at 7; sly at 1");
        z.minutes(10);
        d.is("bundle and cut of 10", z.of(1, 5), 10);
        d.is("rain()", z.rain(), 1 + 1 + 1);
        d.is("ears(0, 0)", z.ears(0, 0), 4);
        d.is("bundle", z.of(0, 4), 9);
        d.is("bundle", z.of(1, 4), 9);
        d.is("cut", z.of(1, 5), 9);
        d.is("rain() on nothing", new EarRows().rain(), 0);
    }

    private static void day() {
        d.promise(16);
        EarRows x = Due.told("left 9; bell 0; gleaner at 7 place 7; gleaner at 2 place 3 house 1 back; sly at 7 place 0 back");
        x.minutes(2);
        d.is("bundle", x.of(1, 4), 10);
        d.is("day()", x.day(), 2);
        d.is("minute", x.now(0), 0);
        d.is("done", x.now(4), 0);
        d.is("bell", x.now(1), 0);
        for (int g = 0; g < 3; g++) {
            d.is("place", x.of(g, 2), 0);
            d.is("back", x.of(g, 6), 0);
            d.is("done", x.of(g, 7), 0);
        }
        d.is("row", x.of(0, 1), 7);
        d.is("row", x.of(1, 1), 2);
        d.is("house", x.of(1, 3), 1);
        d.is("bundle stays", x.of(1, 4), 10);
        d.is("day()", x.day(), 0);
    }

    private static void now() {
        d.promise(17);
        EarRows x = Due.told("bell 3; geese 77; sheaves 88; gleaner at 7 place 7; gleaner at 7 place 0 back; gleaner at 0");
        x.minutes(4);
        d.is("now(0)", x.now(0), 4);
        d.is("now(1)", x.now(1), 3);
        d.is("now(2)", x.now(2), 77);
        d.is("now(3)", x.now(3), 88);
        d.is("now(4)", x.now(4), 2);
        d.is("now(5)", x.now(5), Due.BEYOND);
        d.is("now(-1)", x.now(-1), Due.BEYOND);
    }
}
