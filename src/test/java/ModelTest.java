import java.lang.reflect.Method;
import java.lang.reflect.Modifier;
import java.util.ArrayList;
import java.util.Arrays;
import java.util.Comparator;
import java.util.List;
import java.util.Random;

/** Runs of calls, made by fixed seeds, that EarRows must answer as Plain does. */
public final class ModelTest {
    private static final int RUNS = 200;
    private static final int CALLS = 512;
    private static final String[] NAMES = {"gleaner", "child", "quick", "old", "sly", "widow"};
    private static final String[] WORDS = {"row", "ears", "left", "at", "place", "house", "back", "bell",
        "geese", "sheaves", "gleaner", "rows", "bac", "x", ";", "7", "8", "100", "10000", "99999999999"};

    private final Random random;
    private final EarRows x = new EarRows();
    private final Plain plain = new Plain();
    private final List<String> told = new ArrayList<>();
    private int wrong = 0;

    private ModelTest(long seed) {
        random = new Random(seed);
    }

    private int upTo(int n) {
        return random.nextInt(n + 1);
    }

    private boolean seldom(int n) {
        return random.nextInt(n) == 0;
    }

    /** Within the bounds most times, else at or past an edge. */
    private int within(int low, int high) {
        if (!seldom(12)) {
            return low + upTo(high - low);
        }
        int[] edges = {low, high, low - 1, high + 1, Integer.MIN_VALUE, Integer.MAX_VALUE};
        return edges[random.nextInt(edges.length)];
    }

    private int gleaner() {
        int n = plain.count(0);
        return seldom(25) || n == 0 ? within(-1, 9) : random.nextInt(n);
    }

    private int wanted() {
        return seldom(4) ? within(0, 9999) : upTo(seldom(2) ? 40 : 600);
    }

    private int ahead(int low) {
        return seldom(3) ? within(low, 200) : low + upTo(20);
    }

    private int width() {
        int[] some = {8, 16, 64, 8, 16, 64, 0, 32, -8};
        return some[random.nextInt(some.length)];
    }

    private long number() {
        long[] some = {random.nextLong(), upTo(99), upTo(99), upTo(300) - 150, upTo(70000), 127, 128, 255, 256, -1};
        return some[random.nextInt(some.length)];
    }

    private int let(int what) {
        return what == 0 ? (seldom(6) ? within(0, 999) : upTo(30))
            : what == 1 ? (seldom(2) ? within(0, 9999) : plain.now(0) + upTo(60))
            : seldom(2) ? within(0, 9999) : upTo(20);
    }

    private Object[] arguments(String name) {
        switch (name) {
            case "leave": return of(within(0, 7), within(0, 7), within(0, 99));
            case "ears": return of(within(0, 7), within(0, 7));
            case "left": return of(within(-1, 7));
            case "rake": return of(within(0, 7));
            case "let": {
                int what = within(0, 2);
                return of(what, let(what));
            }
            case "gleaner": return of(within(0, 5), within(0, 7), within(0, 4));
            case "of": return of(gleaner(), within(0, 9));
            case "set": {
                int[] some = {1, 2, 3, 6};
                return of(gleaner(), seldom(8) ? within(0, 9) : some[random.nextInt(4)], seldom(4) ? within(0, 7) : upTo(1));
            }
            case "turn":
            case "as": return of(gleaner(), within(0, 5));
            case "takes": return of(within(0, 5), within(0, 99));
            case "lay":
            case "done":
            case "begin":
            case "best":
            case "alone":
            case "rival": return of(gleaner());
            case "minutes": return of(seldom(6) ? within(1, 200) : 1 + upTo(6));
            case "now": return of(within(0, 4));
            case "on":
            case "where": return of(gleaner(), ahead(0));
            case "meet": return of(gleaner(), gleaner());
            case "may":
            case "leaveFor": return of(wanted());
            case "ring": return of(gleaner(), wanted(), ahead(1));
            case "shared":
            case "over": return of(within(0, 4));
            case "straw": return of(within(0, 100));
            case "heap": {
                int n = within(1, 10);
                return of(gleaner(), gleaner(), n, seldom(10) ? within(0, 10) : upTo(Math.max(0, Math.min(n, 10))));
            }
            case "feed": return of(random.nextInt(), within(1, 4));
            case "sheet": return of(within(0, 3), width(), within(0, seldom(2) ? 40 : 10));
            case "write": return new Object[] {within(0, 3), within(0, seldom(2) ? 12 : 3), number()};
            case "copy": return of(within(0, 3), upTo(6) - seldomOne(), within(0, 3), upTo(6) - seldomOne(),
                seldom(15) ? Integer.MAX_VALUE : upTo(6) - seldomOne());
            case "lays": return of(within(0, 3), within(0, 7));
            case "book":
            case "read": return of(within(0, 3), seldom(3) ? within(0, 200) : upTo(2));
            case "count": return of(within(0, 3));
            case "status": return of(within(-1, 6));
            default: return of();
        }
    }

    private int seldomOne() {
        return seldom(8) ? 1 : 0;
    }

    private static Object[] of(int... all) {
        return Arrays.stream(all).boxed().toArray();
    }

    private String item() {
        String gap = seldom(4) ? "  " : " ";
        switch (random.nextInt(6)) {
            case 0: {
                StringBuilder row = new StringBuilder("row " + upTo(7) + gap + "ears");
                for (int n = 1 + upTo(8), i = 0; i < Math.min(n, seldom(9) ? 9 : 8); i++) {
                    row.append(' ').append(upTo(99));
                }
                return row.toString();
            }
            case 1: return "left" + gap + upTo(seldom(9) ? 120 : 99);
            case 2: return (seldom(2) ? "bell " + upTo(40) : "geese " + upTo(60));
            case 3: return "sheaves " + upTo(30);
            default: return NAMES[random.nextInt(6)] + " at" + gap + upTo(7)
                + (seldom(2) ? " place " + upTo(7) : "") + (seldom(2) ? " house " + upTo(4) : "")
                + (seldom(2) ? gap + "back" : "");
        }
    }

    private String fieldText() {
        StringBuilder text = new StringBuilder(seldom(5) ? " " : "").append(item());
        while (seldom(2)) {
            text.append(seldom(3) ? ";" : " ; ").append(item());
        }
        if (seldom(3)) {
            int at = random.nextInt(text.length());
            switch (random.nextInt(4)) {
                case 0: text.setCharAt(at, (char) random.nextInt(256)); break;
                case 1: text.setLength(at); break;
                case 2: text.insert(at, " " + WORDS[random.nextInt(WORDS.length)] + " "); break;
                default: text.deleteCharAt(at);
            }
        }
        return text.toString();
    }

    private void call(Method mine, Method its, Object... with) throws ReflectiveOperationException {
        if (told.size() >= CALLS) {
            return;
        }
        Object got = mine.invoke(x, with);
        Object want = its.invoke(plain, with);
        told.add(mine.getName() + Arrays.toString(with) + " " + got);
        if (!got.equals(want) && wrong++ < 3) {
            System.out.println(mine.getName() + Arrays.toString(with) + " answered " + got + ", due is " + want
                + "; before it: " + told.subList(Math.max(0, told.size() - 30), told.size()));
        }
    }

    private void call(String name, Object... with) throws ReflectiveOperationException {
        Class<?>[] types = Arrays.stream(with).map(w -> w instanceof Long ? long.class : int.class).toArray(Class<?>[]::new);
        call(EarRows.class.getMethod(name, types), Plain.class.getMethod(name, types), with);
    }

    private void callText() throws ReflectiveOperationException {
        call("wipe");
        String text = fieldText();
        for (int i = 0, n; i < text.length(); i += n) {
            n = Math.min(1 + upTo(3), text.length() - i);
            int bytes = random.nextInt();
            for (int k = 0; k < n; k++) {
                bytes = bytes << 8 | text.charAt(i + k);
            }
            call("feed", bytes, n);
        }
        call("text");
    }

    /** A book is read as it was written, on a sheet of as many numbers as gleaners, or of one more or less. */
    private void callBook() throws ReflectiveOperationException {
        int s = upTo(3);
        int n = upTo(30);
        call("sheet", s, seldom(2) ? 8 : 64, Math.max(0, plain.count(0) + (seldom(2) ? upTo(2) - 1 : 0)));
        call("book", s, n);
        call("read", s, n);
        call("write", s, upTo(3), number());
        call("read", s, n);
    }

    /** Most runs have sheets and somebody in the field from the beginning; some begin late. */
    private void begin() throws ReflectiveOperationException {
        if (seldom(6)) {
            return;
        }
        callText();
        callText();
        for (int s = 0; s < 4; s++) {
            if (!seldom(4)) {
                call("sheet", s, seldom(3) ? 8 : 16, upTo(12));
            }
        }
        if (seldom(5)) {
            for (int i = 0; i < 48; i++) {
                call("minutes", 200);
            }
            call("minutes", 150 + upTo(50));
        }
    }

    /** What takes away what the other calls ask for comes but seldom. */
    private boolean isNow(String name) {
        switch (name) {
            case "day": return seldom(9);
            case "undo": return seldom(6);
            case "rake":
            case "lay":
            case "sheet": return seldom(3);
            case "feed": return seldom(4);
            default: return true;
        }
    }

    private int run() throws ReflectiveOperationException {
        Method[] face = Arrays.stream(EarRows.class.getDeclaredMethods()).filter(m -> Modifier.isPublic(m.getModifiers()))
            .sorted(Comparator.comparing(Method::getName)).toArray(Method[]::new);
        begin();
        while (told.size() < CALLS) {
            if (seldom(25)) {
                callText();
            }
            if (seldom(10)) {
                call("minutes", 1 + upTo(3));
            }
            if (seldom(60)) {
                callBook();
            }
            Method mine = face[random.nextInt(face.length)];
            if (isNow(mine.getName())) {
                call(mine.getName(), arguments(mine.getName()));
            }
        }
        return wrong;
    }

    public static void main(String[] args) throws ReflectiveOperationException {
        int wrong = 0;
        int runs = args.length > 0 ? Integer.parseInt(args[0]) : RUNS;
        for (int seed = 0; seed < runs && wrong < 10; seed++) {
            wrong += new ModelTest(seed).run();
        }
        System.out.println(runs + " runs, " + wrong + " answers not as Plain's");
        if (wrong != 0) {
            System.exit(1);
        }
    }
}
