/** Tells the answers that are not the ones that are due, and ends a test. */
final class Due {
    static final long BEYOND = -1000000001L;
    static final long FULL = -1000000002L;
    static final long KIND = -1000000003L;
    static final long NONE = -1000000004L;
    static final long STATE = -1000000005L;
    static final long MISSING = -1000000006L;
    static final long SIZE = -1000000007L;

    private int wrong = 0;
    private int asked = 0;
    private int promise = 0;

    void promise(int number) {
        promise = number;
    }

    void is(String call, long got, long want) {
        asked++;
        if (got != want) {
            wrong++;
            System.out.println("promise " + promise + ": " + call + " answered " + got + ", due is " + want);
        }
    }

    /** The same answers, one behind the other. */
    void are(String call, long[] got, long... want) {
        is(call + " (how many)", got.length, want.length);
        for (int i = 0; i < Math.min(got.length, want.length); i++) {
            is(call + " (" + i + ")", got[i], want[i]);
        }
    }

    void end() {
        System.out.println(asked + " answers asked, " + wrong + " not as due");
        if (wrong != 0) {
            System.exit(1);
        }
    }

    /** Feeds a text, four bytes a call. */
    static void feed(EarRows x, String text) {
        for (int i = 0; i < text.length(); i += 4) {
            int n = Math.min(4, text.length() - i);
            int bytes = 0;
            for (int k = 0; k < n; k++) {
                bytes = bytes << 8 | text.charAt(i + k) & 255;
            }
            x.feed(bytes, n);
        }
    }

    static int text(EarRows x, String text) {
        feed(x, text);
        return x.text();
    }

    /** A field told in a text that must have no fault. */
    static EarRows told(String... texts) {
        EarRows x = new EarRows();
        for (String text : texts) {
            int items = text(x, text);
            if (items < 0) {
                throw new IllegalStateException("a fault in the test's own text: " + text + " at " + (-1 - items));
            }
        }
        return x;
    }

    /** All that can be asked of a field, its gleaners, the tape and the findings, without changing it. */
    static long[] all(EarRows x) {
        long[] found = new long[64 + 9 * 10 + 5 + 4];
        int at = 0;
        for (int row = 0; row < 8; row++) {
            for (int place = 0; place < 8; place++) {
                found[at++] = x.ears(row, place);
            }
        }
        for (int g = 0; g < x.count(0); g++) {
            for (int what = 0; what < 10; what++) {
                found[at++] = x.of(g, what);
            }
        }
        for (int what = 0; what < 5; what++) {
            found[at++] = x.now(what);
        }
        for (int what = 0; what < 4; what++) {
            found[at++] = x.count(what);
        }
        return found;
    }
}
