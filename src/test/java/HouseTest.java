/** Promises 31 to 35: houses, straw. */
public final class HouseTest {
    private static final Due d = new Due();

    public static void main(String[] args) {
        shared();
        over();
        rich();
        straw();
        heap();
        d.end();
    }

    private static EarRows threeHouses() {
        EarRows x = Due.told("bell 0; row 0 ears 11; row 1 ears 6; row 2 ears 3; row 3 ears 8; row 4 ears 8",
            "old at 0 house 1; old at 1 house 1; old at 2 house 1; old at 3 house 4; old at 4 house 2; old at 5 house 3");
        x.minutes(1);
        return x;
    }

    private static void shared() {
        d.promise(31);
        EarRows x = threeHouses();
        d.is("shared(1): 20 by 3", x.shared(1), 6);
        d.is("shared(4)", x.shared(4), 8);
        d.is("shared(3)", x.shared(3), 0);
        d.is("shared(0)", x.shared(0), Due.NONE);
        d.is("shared(5)", x.shared(5), Due.BEYOND);
        d.is("shared(-1)", x.shared(-1), Due.BEYOND);
    }

    private static void over() {
        d.promise(32);
        EarRows x = threeHouses();
        d.is("over(1): 20 less 18", x.over(1), 2);
        d.is("over(2)", x.over(2), 0);
        d.is("over(0)", x.over(0), Due.NONE);
        d.is("over(5)", x.over(5), Due.BEYOND);
        d.is("over(-1)", x.over(-1), Due.BEYOND);
    }

    private static void rich() {
        d.promise(33);
        EarRows x = threeHouses();
        d.is("rich(): 2 as 4, the least", x.rich(), 2);
        x.lay(4);
        d.is("rich()", x.rich(), 4);
        x.lay(3);
        d.is("rich()", x.rich(), 1);
        for (int g = 0; g < 3; g++) {
            x.lay(g);
        }
        d.is("rich(), where nobody has anything: the least that is somebody's", x.rich(), 1);
        x.set(0, 3, 0);
        d.is("rich(), and house 0 is somebody's", x.rich(), 0);
        d.is("rich(), with nobody", new EarRows().rich(), Due.NONE);
        d.is("rich(), of house 4 alone", Due.told("old at 0 house 4").rich(), 4);
    }

    private static void straw() {
        d.promise(34);
        // Bundles 5 with 2 of sheaves, 2 with 2, 33 + 2 with 2, 0.
        EarRows x = Due.told("bell 0; row 0 ears 9; row 2 ears 99; row 3 ears 7", "sly at 0; sly at 1; sly at 2; old at 3; old at 4");
        x.minutes(1);
        d.is("straw(0): all but the empty one", x.straw(0), 0b01111);
        d.is("straw(1)", x.straw(1), 0b00111);
        d.is("straw(5): 2 of 35 are 5 hundredths and more", x.straw(5), 0b00111);
        d.is("straw(6)", x.straw(6), 0b00011);
        d.is("straw(40)", x.straw(40), 0b00011);
        d.is("straw(41)", x.straw(41), 0b00010);
        d.is("straw(100)", x.straw(100), 0b00010);
        d.is("straw(101)", x.straw(101), Due.BEYOND);
        d.is("straw(-1)", x.straw(-1), Due.BEYOND);
        EarRows y = Due.told("bell 0; left 1; child at 0");
        y.minutes(1);
        d.is("straw(0), of one ear", y.straw(0), 1);
        d.is("straw(0), with nobody", new EarRows().straw(0), 0);
    }

    private static void heap() {
        d.promise(35);
        // Gleaner 0 has 5 with 2 of sheaves, gleaner 1 has 7; gleaner 2 has 54, gleaner 3 has 1, gleaner 4 nothing.
        EarRows x = Due.told("bell 0; row 0 ears 9; row 1 ears 7; row 2 ears 54; row 3 ears 1", "sly at 0; old at 1; old at 2; old at 3; old at 4");
        x.minutes(1);
        d.is("heap(0, 1, 1, 0)", x.heap(0, 1, 1, 0), 10);
        d.is("heap(0, 1, 1, 1)", x.heap(0, 1, 1, 1), 2);
        d.is("heap(0, 1, 3, 0): C(10, 3)", x.heap(0, 1, 3, 0), 120);
        d.is("heap(0, 1, 3, 1): 2 C(10, 2)", x.heap(0, 1, 3, 1), 90);
        d.is("heap(0, 1, 3, 2)", x.heap(0, 1, 3, 2), 10);
        d.is("heap(0, 1, 3, 3)", x.heap(0, 1, 3, 3), 0);
        d.is("heap(1, 0, 3, 2)", x.heap(1, 0, 3, 2), 10);
        d.is("heap(0, 1, 10, 0)", x.heap(0, 1, 10, 0), 1);
        d.is("heap(0, 1, 10, 10)", x.heap(0, 1, 10, 10), 0);
        d.is("heap(0, 3, 6, 2)", x.heap(0, 3, 6, 2), 1);
        d.is("heap(0, 3, 6, 1)", x.heap(0, 3, 6, 1), 0);
        d.is("heap(0, 3, 7, 2): six ears", x.heap(0, 3, 7, 2), Due.BEYOND);
        d.is("heap(0, 2, 10, 0): 59 ears, C(57, 10)", x.heap(0, 2, 10, 0), 43183019880L);
        d.is("heap(1, 2, 1, 0): 61 ears", x.heap(1, 2, 1, 0), Due.SIZE);
        d.is("heap(1, 2, 11, 0)", x.heap(1, 2, 11, 0), Due.BEYOND);
        d.is("heap(0, 1, 0, 0)", x.heap(0, 1, 0, 0), Due.BEYOND);
        d.is("heap(0, 1, 2, 3)", x.heap(0, 1, 2, 3), Due.BEYOND);
        d.is("heap(0, 1, 2, -1)", x.heap(0, 1, 2, -1), Due.BEYOND);
        d.is("heap(0, 0, 1, 0)", x.heap(0, 0, 1, 0), Due.BEYOND);
        d.is("heap(0, 5, 1, 0)", x.heap(0, 5, 1, 0), Due.BEYOND);
        d.is("heap(5, 0, 1, 0)", x.heap(5, 0, 1, 0), Due.BEYOND);
        d.is("heap(-1, 0, 1, 0)", x.heap(-1, 0, 1, 0), Due.BEYOND);
        d.is("status(6)", x.status(6), 1);
        EarRows y = Due.told("bell 0; row 0 ears 60; old at 0; old at 1");
        y.minutes(1);
        d.is("60 ears, C(60, 10)", y.heap(0, 1, 10, 0), 75394027566L);
    }
}
