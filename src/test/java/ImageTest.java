/** Promises 45 to 49: images, counts, findings. */
public final class ImageTest {
    private static final Due d = new Due();

    public static void main(String[] args) {
        imageAndUndo();
        tear();
        count();
        status();
        aFindingChangesNothing();
        d.end();
    }

    private static EarRows some() {
        EarRows x = Due.told("left 12; bell 2; geese 40; sheaves 33; sly at 3 place 6 house 2", "gleaner at 7 place 7; widow at 0 back");
        x.minutes(5);
        return x;
    }

    private static void imageAndUndo() {
        d.promise(45);
        long[] before = Due.all(some());
        EarRows x = some();
        d.is("image()", x.image(), 1);
        d.are("all, behind image()", Due.all(x), before);
        d.promise(46);
        change(x);
        d.is("undo()", x.undo(), 3);
        d.are("all, behind undo()", Due.all(x), before);
        change(x);
        d.is("undo(), what was kept stays", x.undo(), 3);
        d.are("all, behind undo() once more", Due.all(x), before);
        toTheLatest();
        anotherInItsPlace();
        whatIsNotKept();
    }

    private static void toTheLatest() {
        EarRows x = some();
        x.image();
        change(x);
        d.is("image()", x.image(), 1);
        long[] later = Due.all(x);
        x.rain();
        x.gleaner(0, 0, 0);
        d.is("undo(), to the latest", x.undo(), 4);
        d.are("all, behind undo() to the latest", Due.all(x), later);
    }

    private static void whatIsNotKept() {
        EarRows y = new EarRows();
        d.is("undo()", y.undo(), Due.NONE);
        y.image();
        y.gleaner(0, 0, 0);
        d.is("undo(), to nobody", y.undo(), 0);
        d.is("count(0)", y.count(0), 0);
        y.sheet(0, 8, 2);
        y.write(0, 0, 3);
        Due.feed(y, "bell 7");
        y.undo();
        d.is("sheets stay", y.write(0, 0, 0), 3);
        d.is("the tape stays", y.count(1), 6);
        d.is("text()", y.text(), 1);
        d.is("status(3), none is taken back", y.status(3), 1);
    }

    private static void anotherInItsPlace() {
        EarRows x = Due.told("left 9; bell 0");
        x.image();
        x.gleaner(4, 7, 3);
        x.minutes(4);
        x.undo();
        x.gleaner(1, 2, 0);
        long[] due = {1, 2, 0, 0, 0, 0, 0, 0, 1, 1};
        for (int what = 0; what < 10; what++) {
            d.is("of(0, " + what + ") of another in its place", x.of(0, what), due[what]);
        }
    }

    private static void change(EarRows x) {
        x.minutes(3);
        x.rain();
        x.set(1, 3, 4);
        x.turn(0, 1);
        x.lay(2);
        x.let(0, 90);
        x.let(1, 91);
        x.let(2, 92);
        x.leave(5, 5, 55);
        x.gleaner(3, 3, 3);
        x.set(2, 6, 0);
    }

    private static void tear() {
        d.promise(47);
        EarRows x = some();
        d.is("tear()", x.tear(), 0);
        x.image();
        x.image();
        d.is("tear()", x.tear(), 1);
        d.is("tear()", x.tear(), 0);
        d.is("undo()", x.undo(), Due.NONE);
        d.is("count(0)", x.count(0), 3);
        x.image();
        d.is("undo()", x.undo(), 3);
    }

    private static void count() {
        d.promise(48);
        EarRows x = Due.told("bell 0; row 0 ears 9; row 1 ears 4", "sly at 0; old at 1; sly at 2");
        x.minutes(1);
        x.feed(0, 3);
        d.is("count(0)", x.count(0), 3);
        d.is("count(1)", x.count(1), 3);
        d.is("count(2)", x.count(2), 5 + 4 + 2);
        d.is("count(3)", x.count(3), 4);
        d.is("count(4)", x.count(4), Due.BEYOND);
        d.is("count(-1)", x.count(-1), Due.BEYOND);
    }

    private static void status() {
        d.promise(49);
        EarRows x = Due.told("old at 0;old at 0;old at 0;old at 0;old at 0;old at 0;old at 0;old at 0;old at 0");
        x.ears(8, 0);
        x.gleaner(0, 0, 0);
        x.gleaner(0, 0, 0);
        x.as(0, 4);
        x.as(0, 4);
        x.as(0, 4);
        for (int i = 0; i < 4; i++) {
            x.undo();
        }
        for (int i = 0; i < 49; i++) {
            x.minutes(200);
        }
        for (int i = 0; i < 5; i++) {
            x.minutes(200);
        }
        for (int i = 0; i < 6; i++) {
            x.write(0, 0, 0);
        }
        for (int i = 0; i < 7; i++) {
            x.sheet(0, 8, -1);
        }
        for (int which = 0; which < 7; which++) {
            d.is("status(" + which + ")", x.status(which), which + 1);
        }
        d.is("status(-1)", x.status(-1), 28);
        d.is("status(7)", x.status(7), Due.BEYOND);
        d.is("status(-2)", x.status(-2), Due.BEYOND);
        d.is("status(0)", x.status(0), 3);
        d.is("status(-1)", x.status(-1), 30);
        d.is("a fault isn't a finding", Due.text(x, "x"), -1);
        d.is("status(-1)", x.status(-1), 30);
    }

    private static void aFindingChangesNothing() {
        d.promise(49);
        EarRows x = some();
        x.sheet(0, 8, 3);
        long[] before = Due.all(x);
        x.leave(0, 0, 100);
        x.rake(8);
        x.let(0, 1000);
        x.gleaner(0, 0, 5);
        x.set(1, 1, 8);
        x.turn(0, 6);
        x.lay(3);
        x.minutes(201);
        x.feed(0, 5);
        x.lays(1, 0);
        x.lays(0, 8);
        x.undo();
        x.ring(0, 9999, 200);
        x.leaveFor(9999);
        d.are("all, behind findings", Due.all(x), before);
        d.is("status(-1)", x.status(-1), 14);
    }
}
