/** The edges of promises 36 to 38 and of THE TEXT in "Terms": the tape, tokens, items, faults. */
public final class TextEdgeTest {
    private static final int TERMS = Edges.TERMS;
    private static final String FAULT = "FAULT: the place (from 0) of the first byte of the first TOKEN that can't stand there";
    private static final Edges e = new Edges();

    public static void main(String[] args) {
        feed();
        wipe();
        text();
        tape();
        tokens();
        sequence();
        rows();
        left();
        kinds();
        aTenth();
        bellGeeseSheaves();
        endsTooEarly();
        e.end(36, 38);
    }

    /** Words that ask for a fault at a place: it is told, it is no finding, and it changes nothing but the tape. */
    private static void fault(String words, String text, int place) {
        e.edge(TERMS, words, "told left 5; old at 3 place 2 back; bell 6", "fed " + text, "text() " + (-1 - place), "count(1) 0", "left(-1) 320",
            "count(0) 1", "now(1) 6", "now(2) 9999", "now(3) 500");
    }

    private static void feed() {
        e.edge(36, "THE TAPE gets the n lowest bytes of a number behind it, the highest of these first (n 1 to 4): how many it has.",
            "feed(2020962146, 3) 3", "feed(-244, 1) 4", "wipe() 4", "feed(1818584692, 4) 4", "feed(-57296, 2) 6", "text() 1");
        // "bell 7", its bytes below others that may not come: 0x78 'x', and a number below 0.
        e.edge(36, "the n lowest bytes of a number", "feed(2021155429, 2) 2", "feed(2021157996, 2) 4", "feed(-57289, 2) 6", "text() 1", "now(1) 7");
        e.edge(36, "the n lowest bytes of a number", "feed(-1, 4) 4", "text() -1", "feed(MIN, 4) 4", "text() -1", "feed(MAX, 4) 4", "text() -1",
            "feed(0, 1) 1", "text() -1");
        e.edge(36, "BEYOND: n.", "fed bell", "feed(0, 0) BEYOND", "feed(0, 5) BEYOND", "feed(0, -1) BEYOND", "feed(0, MIN) BEYOND", "feed(0, MAX) BEYOND",
            "count(1) 4");
        e.edge(36, "FULL.", "30 times feed(538976288, 4)", "count(1) 120", "feed(32, 1) FULL", "feed(32, 4) FULL", "feed(32, 0) BEYOND", "feed(32, 5) BEYOND",
            "wipe() 120", "feed(32, 1) 1");
        e.edge(36, "FULL.", "29 times feed(538976288, 4)", "feed(32, 1) 117", "feed(32, 4) FULL", "feed(8224, 2) 119", "feed(8224, 2) FULL", "feed(32, 1) 120",
            "feed(32, 1) FULL", "text() -121", "feed(32, 4) 4");
    }

    private static void wipe() {
        e.edge(37, "THE TAPE is empty: how many it had.", "wipe() 0", "feed(0, 1) 1", "wipe() 1", "wipe() 0", "30 times feed(0, 4)", "wipe() 120", "count(1) 0",
            "text() -1");
        e.edge(37, "THE TAPE is empty", "fed bell 7; x", "wipe() 9", "told bell 8", "now(1) 8", "left(-1) 0");
    }

    private static void text() {
        e.edge(38, "whose ITEMS come to what there is, and empty then: how many ITEMS", "told left 5; old at 0", "fed row 7 ears 9", "text() 1", "count(1) 0",
            "left(-1) 324", "count(0) 1", "text() -1");
        e.edge(38, "With a FAULT: -1 less its place (nothing changes but that THE TAPE is empty; no finding).",
            "told left 5; old at 0", "fed left 1; bell 7; sly at 1; geese 8; sheaves 9; row 0 ears 8; x", "text() -61", "count(1) 0", "status(-1) 0",
            "left(-1) 320", "now(1) 10", "now(2) 9999", "now(3) 500", "count(0) 1", "ears(0, 0) 5");
        e.edge(38, "With a FAULT: -1 less its place", "text() -1", "fed ;", "text() -1", "fed left 1;", "text() -8", "status(-1) 0");
        e.edge(38, "With a FAULT: -1 less its place", "told bell 0; left 9; sly at 0", "minutes(2) *", "image() 1", "minutes(1) *", "fed left 1;old at 0;1", "text() -17",
            "of(0, 4) *", "ears(7, 7) 9", "leave(8, 0, 0) BEYOND");
        e.edge(38, "THE TAPE is THE TEXT of a FIELD, whose ITEMS come to what there is", "told bell 0; left 9; sly at 0 house 3", "minutes(2) 8",
            "told sly at 7 place 6 back; bell 3", "of(0, 4) 8", "of(0, 2) 4", "of(0, 3) 3", "now(0) 2", "now(3) 498", "of(1, 4) 0", "of(1, 7) 0", "ears(0, 2) 6");
    }

    private static void tape() {
        String words = "THE TEXT of a FIELD, from THE TAPE (bytes, at most 120).";
        e.edge(TERMS, words, "fed " + "left1;".repeat(19) + "left12", "count(1) 120", "text() 20", "left(-1) 768");
        e.edge(TERMS, words, "fed " + "left1;".repeat(20), "count(1) 120", "text() -121", "left(-1) 0");
        e.edge(TERMS, words, "fed " + "left1;".repeat(19) + "left1x", "text() -120");
        e.edge(TERMS, words, "fed " + "left1;".repeat(19) + "left 1", "text() 20", "fed bell7", "text() 1");
        e.edge(TERMS, words, "fed bell " + "0".repeat(114) + "7", "count(1) 120", "text() 1", "now(1) 7");
        e.edge(TERMS, words, "fed bell " + "9".repeat(115), "text() -6");
        e.edge(TERMS, words, "fed " + "z".repeat(120), "text() -1");
        e.edge(TERMS, words, "fed " + " ".repeat(120), "text() -121");
        e.edge(TERMS, words, "fed " + " ".repeat(115) + "left9", "text() 1", "left(-1) 576", "fed " + " ".repeat(116) + "left", "text() -121");
        e.edge(TERMS, words, "fed " + " ".repeat(119) + "7", "text() -120");
    }

    private static void tokens() {
        String longest = "TOKENS, each as long as can be";
        e.edge(TERMS, longest, "fed row3ears1 2;bell0;old at7place7house4back", "text() 3", "ears(3, 0) 1", "ears(3, 1) 2", "now(1) 0", "of(0, 2) 7", "of(0, 3) 4",
            "of(0, 6) 1");
        fault(longest, "leftbell 1", 0);
        fault(longest, "row 1 earsold", 6);
        fault(longest, "left 1 00", 7);
        fault(longest, "oldat 1", 0);
        fault(longest, "old at 1 backback", 9);
        e.edge(TERMS, longest, "fed row 0 ears 12 3", "text() 1", "ears(0, 0) 12", "ears(0, 1) 3", "fed row 0 ears 4 5;left99", "text() 2", "ears(0, 0) 99");
        String letters = "WORDS (letters a to z)";
        fault(letters, "Left 1", 0);
        fault(letters, "leftT 1", 4);
        fault(letters, "lefta 1", 0);
        fault(letters, "leftz 1", 0);
        fault(letters, "`left 1", 0);
        fault(letters, "left{1", 4);
        fault(letters, "left@1", 4);
        fault(letters, "left[1", 4);
        String digits = "NUMBERS (digits, 9999 at most)";
        e.edge(TERMS, digits, "fed geese 9999;sheaves 09999", "text() 2", "now(3) 9999", "fed geese 0000", "text() 1", "now(2) 0");
        fault(digits, "geese 10000", 6);
        fault(digits, "sheaves 10000", 8);
        fault(digits, "geese 4294967296", 6);
        fault(digits, "geese 2147483648", 6);
        fault(digits, "geese 18446744073709551616", 6);
        fault(digits, "left 4294967297", 5);
        fault(digits, "10000", 0);
        fault(digits, "left -1", 5);
        fault(digits, "left +1", 5);
        fault(digits, "left /", 5);
        fault(digits, "left :", 5);
        fault(digits, "left 1.0", 6);
        String blanks = "blanks may stand between";
        e.edge(TERMS, blanks, "fed   left   1  ;  bell  2  ", "text() 2", "now(1) 2", "left(-1) 64");
        fault(blanks, "left\t1", 4);
        fault(blanks, "left\n1", 4);
        fault(blanks, "left 1\r", 6);
        fault(blanks, "left\u00001", 4);
        fault(blanks, "left\u001f1", 4);
        fault(blanks, "left!1", 4);
        fault(blanks, "left\u00a01", 4);
        fault(blanks, "le ft 1", 0);
        fault(blanks, "left 1 0", 7);
        String none = "a byte that begins no TOKEN";
        fault(none, "\u0000", 0);
        fault(none, "\u007f", 0);
        fault(none, "\u0080", 0);
        fault(none, "\u00ff", 0);
        fault(none, "  #", 2);
        fault(none, "left 1;\u00e1", 7);
        fault(none, "left 1#", 6);
        fault(none, "left 1#;;", 6);
    }

    private static void sequence() {
        String words = "TEXT: ITEM { ; ITEM }.";
        e.edge(TERMS, words, "fed left 1", "text() 1", "fed left 1;left 2", "text() 2", "left(-1) 128");
        e.edge(TERMS, words, "fed row 1 ears 5; left 3; row 2 ears 6; bell 4; bell 5", "text() 5", "left(1) 24", "left(2) 27", "now(1) 5");
        fault(words, "", 0);
        fault(words, ";", 0);
        fault(words, ";left 1", 0);
        fault(words, "left 1;", 7);
        fault(words, "left 1; ", 8);
        fault(words, "left 1;;left 2", 7);
        fault(words, "left 1 left 2", 7);
        fault(words, "left 1 ; 2", 9);
        fault(FAULT, "7", 0);
        fault(FAULT, "ears 1", 0);
        fault(FAULT, " at 1", 1);
        fault(FAULT, "back", 0);
        fault(FAULT, "place 1", 0);
        fault(FAULT, "house 1", 0);
        fault(FAULT, "left 1; x", 8);
        fault("another WORD", "lefts 1", 0);
        fault("another WORD", "lef 1", 0);
        fault("another WORD", "xeft 1", 0);
        fault("another WORD", "lefx 1", 0);
        fault("another WORD", "rows 1 ears 1", 0);
        fault("another WORD", "bel 1", 0);
        fault("another WORD", "goose 1", 0);
        fault("another WORD", "sheave 1", 0);
        fault("another WORD", "gleaners at 1", 0);
        fault("another WORD", "farmer at 1", 0);
    }

    private static void rows() {
        String words = "row, a NUMBER (ROW), ears, one to eight NUMBERS (0 to 99: EARS at its PLACES 0, 1, ..; the others stay)";
        e.edge(TERMS, words, "told left 5", "fed row 0 ears 99", "text() 1", "ears(0, 0) 99", "ears(0, 1) 5", "left(-1) 414",
            "fed row 7 ears 0 1 2 3 4 5 6 99", "text() 1", "ears(7, 0) 0", "ears(7, 6) 6", "ears(7, 7) 99", "left(6) 40");
        e.edge(TERMS, words, "told left 5", "fed row 3 ears 1 2 3 4 5 6 7", "text() 1", "ears(3, 6) 7", "ears(3, 7) 5", "ears(4, 0) 5");
        fault(words, "row", 3);
        fault(words, "row ears 1", 4);
        fault(words, "row;", 3);
        fault(words, "row 8 ears 1", 4);
        fault(words, "row 9999 ears 1", 4);
        fault(words, "row 10000 ears 1", 4);
        fault(words, "row 7", 5);
        fault(words, "row 7 1", 6);
        fault(words, "row 7 ear 1", 6);
        fault(words, "row 7; ears 1", 5);
        fault(words, "row 7 ears", 10);
        fault(words, "row 7 ears;", 10);
        fault(words, "row 7 ears x", 11);
        fault(words, "row 7 ears 100", 11);
        fault(words, "row 7 ears 1 100", 13);
        fault(words, "row 7 ears 1 2 3 4 5 6 7 100", 25);
        fault(words, "row 7 ears 1 2 3 4 5 6 7 8 9", 27);
        fault(words, "row 7 ears 1 2 3 4 5 6 7 8 100", 27);
        fault(words, "row 7 ears 1 2 ears", 15);
        fault("(a NUMBER that may not be", "row 7 ears 1 2 10000", 15);
    }

    private static void left() {
        String words = "left and a NUMBER (0 to 99: EARS at each PLACE of the FIELD)";
        e.edge(TERMS, words, "fed left 99", "text() 1", "left(-1) 6336", "ears(0, 0) 99", "ears(7, 7) 99", "fed left 0", "text() 1", "left(-1) 0");
        fault(words, "left 100", 5);
        fault(words, "left", 4);
        fault(words, "left;", 4);
        fault(words, "left left", 5);
        fault(words, "left 1 2", 7);
    }

    private static void kinds() {
        String words = "the name of a KIND (gleaner child quick old sly widow), at, a NUMBER (ROW), perhaps place and a NUMBER (0 to 7; 0 without), "
            + "perhaps house and a NUMBER (0 to 4; 0 without), perhaps back: a new one";
        e.edge(TERMS, words, "fed gleaner at 0;child at 1;quick at 2;old at 3;sly at 4;widow at 7", "text() 6", "of(0, 0) 0", "of(1, 0) 1", "of(2, 0) 2",
            "of(3, 0) 3", "of(4, 0) 4", "of(5, 0) 5", "of(0, 1) 0", "of(5, 1) 7", "of(5, 2) 0", "of(5, 3) 0", "of(5, 6) 0", "of(5, 7) 0");
        e.edge(TERMS, words, "fed old at 7 place 7 house 4 back; old at 0 place 0 house 0; old at 2 house 3 back; sly at 3 back; sly at 3 place 2", "text() 5",
            "where(0, 0) 77", "of(0, 3) 4", "of(0, 6) 1", "where(1, 0) 0", "of(1, 3) 0", "of(1, 6) 0", "where(2, 0) 20", "of(2, 3) 3", "of(2, 6) 1",
            "where(3, 0) 30", "of(3, 6) 1", "where(4, 0) 32", "of(4, 3) 0", "of(4, 6) 0");
        fault(words, "old", 3);
        fault(words, "old 1", 4);
        fault(words, "old;", 3);
        fault(words, "old at", 6);
        fault(words, "old at;", 6);
        fault(words, "old at x", 7);
        fault(words, "old at 8", 7);
        fault(words, "old at 10000", 7);
        fault(words, "old at 1 place", 14);
        fault(words, "old at 1 place;", 14);
        fault(words, "old at 1 place back", 15);
        fault(words, "old at 1 place 8", 15);
        fault(words, "old at 1 house", 14);
        fault(words, "old at 1 house 5", 15);
        fault(words, "old at 1 house back", 15);
        fault(words, "old at 1 house 1 place 1", 17);
        fault(words, "old at 1 place 1 place 1", 17);
        fault(words, "old at 1 house 1 house 1", 17);
        fault(words, "old at 1 back back", 14);
        fault(words, "old at 1 back place 1", 14);
        fault(words, "old at 1 back house 1", 14);
        fault(words, "old at 1 back 1", 14);
        fault(words, "old at 1 2", 9);
        fault(words, "old at 1 bac", 9);
        fault(words, "old at 1 old at 2", 9);
    }

    private static void aTenth() {
        String words = "the name of a KIND for a 10th: its own";
        String eight = "old at 0;old at 1;old at 2;old at 3;old at 4;old at 5;old at 6;old at 7";
        e.edge(TERMS, words, "fed " + eight + ";sly at 0", "text() 9", "count(0) 9", "of(8, 0) 4", "fed bell 3; sly at 1", "text() -9", "count(0) 9", "now(1) 10",
            "fed bell 3", "text() 1", "gleaner(0, 0, 0) FULL");
        e.edge(TERMS, words, "fed " + eight + ";sly at 0;sly at 0", "text() -82", "count(0) 0");
        e.edge(TERMS, words, "told " + eight, "fed widow at 7; child at 0", "text() -13", "count(0) 8", "fed widow at 7", "text() 1", "of(8, 0) 5");
        e.edge(TERMS, words, "9 times gleaner(0, 0, 0)", "fed child", "text() -1", "fed child at 9", "text() -1", "fed children at 1", "text() -1");
    }

    private static void bellGeeseSheaves() {
        String bell = "bell and a NUMBER (0 to 999)";
        e.edge(TERMS, bell, "fed bell 999", "text() 1", "now(1) 999", "fed bell 0", "text() 1", "now(1) 0");
        fault(bell, "bell 1000", 5);
        fault(bell, "bell", 4);
        fault(bell, "bell;", 4);
        fault(bell, "bell x", 5);
        fault(bell, "bell 1 1", 7);
        String geese = "geese and a NUMBER (0 to 9999)";
        e.edge(TERMS, geese, "fed geese 0", "text() 1", "now(2) 0", "fed geese 9999", "text() 1", "now(2) 9999");
        fault(geese, "geese 10000", 6);
        fault(geese, "geese", 5);
        fault(geese, "geese x", 6);
        fault(geese, "geese 1 1", 8);
        String sheaves = "sheaves and a NUMBER (0 to 9999)";
        e.edge(TERMS, sheaves, "fed sheaves 9999", "text() 1", "now(3) 9999", "fed sheaves 0", "text() 1", "now(3) 0");
        fault(sheaves, "sheaves 10000", 8);
        fault(sheaves, "sheaves", 7);
        fault(sheaves, "sheaves x", 8);
        fault(sheaves, "sheaves 1 1", 10);
    }

    private static void endsTooEarly() {
        String words = "or how many bytes there are if it ends too early";
        fault(words, "", 0);
        fault(words, " ", 1);
        fault(words, "    ", 4);
        fault(words, "left", 4);
        fault(words, "left  ", 6);
        fault(words, "left 1 ; ", 9);
        fault(words, "row 1 ears ", 11);
        fault(words, "old at 1 place ", 15);
    }
}
