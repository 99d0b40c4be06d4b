/** Promises 18 to 23: what goes on, with nothing changed. */
public final class OnTest {
    private static final Due d = new Due();

    public static void main(String[] args) {
        on();
        where();
        done();
        after();
        most();
        meet();
        tooLate();
        nothingChanges();
        d.end();
    }

    /** A field at minute 9799 or as many later, where a quick one and an old one are. */
    static EarRows lateBy(int n) {
        EarRows x = Due.told("left 5; quick at 0; old at 7");
        for (int i = 0; i < 48; i++) {
            x.minutes(200);
        }
        x.minutes(199);
        if (n > 0) {
            x.minutes(n);
        }
        return x;
    }

    private static void on() {
        d.promise(18);
        EarRows x = Due.told("left 10; bell 1; gleaner at 0; old at 0; sly at 3");
        d.is("on(0, 0)", x.on(0, 0), 0);
        d.is("on(0, 1)", x.on(0, 1), 0);
        d.is("on(0, 2)", x.on(0, 2), 6);
        d.is("on(1, 2)", x.on(1, 2), 4);
        d.is("on(2, 2)", x.on(2, 2), 3);
        d.is("on(0, 3)", x.on(0, 3), 12);
        d.is("on(1, 3)", x.on(1, 3), 4);
        d.is("on(2, 3)", x.on(2, 3), 8);
        d.is("on(0, 0)", x.on(0, 0), 0);
        d.is("on(3, 0)", x.on(3, 0), Due.BEYOND);
        d.is("on(-1, 0)", x.on(-1, 0), Due.BEYOND);
        d.is("on(0, -1)", x.on(0, -1), Due.BEYOND);
        d.is("on(0, 201)", x.on(0, 201), Due.BEYOND);
        d.is("on(0, 200): all 64 places", Due.told("left 1; bell 0; gleaner at 0").on(0, 200), 64);
        x.minutes(2);
        d.is("a bundle from before counts", x.on(0, 0), 6);
    }

    private static void where() {
        d.promise(19);
        EarRows x = Due.told("bell 0; gleaner at 0; quick at 7 place 3 back; old at 4 place 7");
        d.is("where(0, 0)", x.where(0, 0), 0);
        d.is("where(0, 7)", x.where(0, 7), 7);
        d.is("where(0, 8)", x.where(0, 8), 17);
        d.is("where(0, 15)", x.where(0, 15), 10);
        d.is("where(0, 16)", x.where(0, 16), 20);
        d.is("where(0, 200)", x.where(0, 200), 70);
        d.is("where(1, 1)", x.where(1, 1), 71);
        d.is("where(1, 2)", x.where(1, 2), 70);
        d.is("where(2, 1)", x.where(2, 1), 57);
        d.is("where(2, 2)", x.where(2, 2), 57);
        d.is("where(2, 3)", x.where(2, 3), 56);
        d.is("where(3, 0)", x.where(3, 0), Due.BEYOND);
        d.is("where(-1, 0)", x.where(-1, 0), Due.BEYOND);
        d.is("where(0, -1)", x.where(0, -1), Due.BEYOND);
        d.is("where(0, 201)", x.where(0, 201), Due.BEYOND);
    }

    private static void done() {
        d.promise(20);
        EarRows x = Due.told("bell 0; gleaner at 0; quick at 0; old at 0; gleaner at 7 place 7");
        d.is("done(0)", x.done(0), 64);
        d.is("done(1)", x.done(1), 32);
        d.is("done(2): 64 even minutes, the last of them minute 126", x.done(2), 127);
        d.is("done(3)", x.done(3), 1);
        x.minutes(1);
        d.is("done(3)", x.done(3), 0);
        d.is("done(4)", x.done(4), Due.BEYOND);
        d.is("done(-1)", x.done(-1), Due.BEYOND);
        EarRows y = Due.told("bell 136; gleaner at 0");
        d.is("done(0), with the 200th minute", y.done(0), 200);
        y.let(0, 137);
        d.is("done(0), too late by one", y.done(0), Due.NONE);
        d.is("status(3)", y.status(3), 1);
    }

    private static void after() {
        d.promise(21);
        EarRows x = Due.told("left 10; bell 0; gleaner at 7");
        d.is("after(): 4 at each place of row 7", x.after(), 560 + 32);
        x.let(1, 7);
        d.is("after(), with geese in the last minute", x.after(), 560 + 32 - 160);
        x.let(1, 8);
        d.is("after(), with geese behind the end", x.after(), 560 + 32);
        EarRows y = Due.told("left 10; geese 0");
        d.is("after(), with nobody: the end is now", y.after(), 640);
        EarRows z = Due.told("left 10; bell 201; gleaner at 7; geese 199");
        d.is("after(), with geese in the 200th minute", z.after(), 480);
        z.let(1, 200);
        d.is("after(), with geese behind 200 minutes", z.after(), 640);
    }

    private static void most() {
        d.promise(22);
        EarRows x = Due.told("left 10; bell 0; child at 6; gleaner at 7; old at 0 place 7; old at 0 place 7");
        d.is("most()", x.most(), 2);
        x.turn(2, 1);
        d.is("most()", x.most(), 3);
        EarRows y = Due.told("left 1; bell 0; child at 7; gleaner at 6; child at 6");
        d.is("most(), of equal ones", y.most(), 0);
        y.rake(6);
        d.is("most(), with bundles of 8 and 0", y.most(), 0);
        y.rake(7);
        d.is("most(), with none", y.most(), 0);
        d.is("most(), with nobody", new EarRows().most(), Due.NONE);
        EarRows z = Due.told("row 0 ears 9; bell 0; child at 7; old at 0");
        z.minutes(1);
        d.is("a bundle from before counts", z.most(), 1);
    }

    private static void meet() {
        d.promise(23);
        EarRows x = Due.told("bell 2; gleaner at 0; gleaner at 0 place 4 back; quick at 1; gleaner at 7 place 7");
        d.is("meet(0, 1): places 2 and 2", x.meet(0, 1), 4);
        d.is("meet(1, 0)", x.meet(1, 0), 4);
        d.is("meet(0, 3): one that is DONE is still there", x.meet(0, 3), 58);
        d.is("meet(0, 0)", x.meet(0, 0), Due.BEYOND);
        d.is("meet(0, 4)", x.meet(0, 4), Due.BEYOND);
        d.is("meet(4, 0)", x.meet(4, 0), Due.BEYOND);
        d.is("meet(-1, 0)", x.meet(-1, 0), Due.BEYOND);
        d.is("meet(0, -1)", x.meet(0, -1), Due.BEYOND);
        EarRows y = Due.told("bell 200; gleaner at 0; gleaner at 0; gleaner at 0 place 1; gleaner at 1");
        d.is("meet(0, 1), now", y.meet(0, 1), 0);
        d.is("meet(0, 2)", y.meet(0, 2), Due.NONE);
        d.is("meet(0, 3), at one PLACE of two ROWS", y.meet(0, 3), Due.NONE);
        EarRows z = Due.told("bell 199; gleaner at 0; quick at 0 place 7 back; gleaner at 0 place 2 back");
        d.is("meet(0, 2), with the 200th minute", z.meet(0, 2), 200);
        d.is("meet(0, 1), in passing not", Due.told("bell 0; gleaner at 0; gleaner at 0 place 1 back").meet(0, 1), Due.NONE);
    }

    private static void tooLate() {
        EarRows x = lateBy(0);
        d.promise(18);
        d.is("minute", x.now(0), 9799);
        d.is("on(0, 200)", x.on(0, 200) >= 0 ? 1 : 0, 1);
        d.promise(20);
        d.is("done(0)", x.done(0), 0);
        d.promise(21);
        d.is("after()", x.after() >= 0 ? 1 : 0, 1);
        EarRows y = lateBy(1);
        d.promise(18);
        d.is("on(0, 199)", y.on(0, 199), x.on(0, 200));
        d.is("on(0, 200)", y.on(0, 200), Due.STATE);
        d.is("on(0, 201)", y.on(0, 201), Due.BEYOND);
        d.promise(19);
        d.is("where(0, 199)", y.where(0, 199), 70);
        d.is("where(0, 200)", y.where(0, 200), Due.STATE);
        d.is("where(2, 200)", y.where(2, 200), Due.BEYOND);
        d.promise(20);
        d.is("done(0)", y.done(0), Due.STATE);
        d.is("done(2)", y.done(2), Due.BEYOND);
        d.promise(21);
        d.is("after()", y.after(), Due.STATE);
        d.promise(22);
        d.is("most()", y.most(), Due.STATE);
        d.promise(23);
        d.is("meet(0, 1)", y.meet(0, 1), Due.STATE);
        d.is("meet(0, 0)", y.meet(0, 0), Due.BEYOND);
        d.is("status(4)", y.status(4), 6);
        EarRows nobody = new EarRows();
        for (int i = 0; i < 49; i++) {
            nobody.minutes(200);
        }
        d.promise(22);
        d.is("most(), late and with nobody", nobody.most(), Due.STATE);
    }

    private static void nothingChanges() {
        EarRows x = Due.told("left 10; bell 1; geese 4; gleaner at 0; old at 0; sly at 3 place 6");
        x.minutes(3);
        long[] before = Due.all(x);
        x.on(0, 200);
        x.where(1, 50);
        x.done(0);
        x.after();
        x.most();
        x.meet(0, 2);
        x.begin(1);
        x.best(1);
        x.alone(2);
        x.rival(1);
        x.may(50);
        x.leaveFor(90);
        x.ring(0, 20, 50);
        x.sheet(0, 16, 3);
        x.book(0, 9);
        x.read(0, 8);
        d.promise(18);
        d.are("all, behind what only asks", Due.all(x), before);
    }
}
