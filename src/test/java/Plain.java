import java.math.BigInteger;
import java.util.ArrayList;
import java.util.Arrays;
import java.util.List;
import java.util.Map;
import java.util.function.Consumer;
import java.util.regex.Matcher;
import java.util.regex.Pattern;

/**
 * The document once more, told as plainly as the library allows and without a thought of cost:
 * what ModelTest holds EarRows against. Every public method bears a name of the face.
 */
public final class Plain {
    private static final int B = -1000000001, F = -1000000002, K = -1000000003, N = -1000000004;
    private static final int ST = -1000000005, M = -1000000006, SZ = -1000000007;
    private static final List<String> NAMES = List.of("gleaner", "child", "quick", "old", "sly", "widow");
    private static final Map<Integer, Integer> ABOVE = Map.of(1, 0, 2, 0, 3, 0, 4, 2, 5, 3);

    private static final class Man implements Cloneable {
        int kind, row, place, house, bundle, cut, back, done;
        Man copy() {
            try {
                return (Man) clone();
            } catch (CloneNotSupportedException e) {
                throw new IllegalStateException(e);
            }
        }
    }

    private static final class Land {
        int[][] ears = new int[8][8];
        List<Man> men = new ArrayList<>();
        int sheaves = 500, minute = 0, bell = 10, geese = 9999;

        Land copy() {
            Land c = new Land();
            for (int r = 0; r < 8; r++) c.ears[r] = ears[r].clone();
            for (Man m : men) c.men.add(m.copy());
            c.sheaves = sheaves;
            c.minute = minute;
            c.bell = bell;
            c.geese = geese;
            return c;
        }

        int minute() {
            int before = men.stream().mapToInt(m -> m.bundle).sum();
            if (minute == geese) {
                ears[0] = new int[8];
                ears[1] = new int[8];
            }
            if (minute >= bell) {
                for (Man m : men) {
                    if (m.done == 1) continue;
                    int n = takesOf(m.kind, ears[m.row][m.place]);
                    ears[m.row][m.place] -= n;
                    m.bundle += n;
                    if (m.kind == 4 && minute % 2 == 0) {
                        for (int i = 0; i < 2; i++) {
                            if (sheaves > 0) {
                                sheaves--;
                                m.bundle++;
                                m.cut++;
                            }
                        }
                    }
                }
                for (Man m : men) {
                    for (int i = 0; i < goesOf(m.kind, minute); i++) {
                        if (m.done == 1) continue;
                        int to = m.place + (m.back == 1 ? -1 : 1);
                        if (to >= 0 && to <= 7) {
                            m.place = to;
                        } else if (m.row == 7) {
                            m.done = 1;
                        } else {
                            m.row++;
                            m.back = 1 - m.back;
                        }
                    }
                }
            }
            minute++;
            return men.stream().mapToInt(m -> m.bundle).sum() - before;
        }

        Land on(int n) {
            Land c = copy();
            for (int i = 0; i < n; i++) c.minute();
            return c;
        }

        Land end() {
            Land c = copy();
            for (int i = 0; i < 200; i++) {
                if (c.men.stream().allMatch(m -> m.done == 1)) break;
                c.minute();
            }
            return c;
        }

        Land with(Consumer<Land> change) {
            Land c = copy();
            change.accept(c);
            return c;
        }
    }

    private static int takesOf(int kind, int n) {
        int[] by = {Math.min(n / 2 + 1, n), n > 0 ? 1 : 0, n / 3, n, n / 3, n > 9 ? 9 : n};
        return by[kind];
    }

    private static int goesOf(int kind, int minute) {
        int slow = 1 - minute % 2;
        int[] by = {1, 1, 2, slow, 2, slow};
        return by[kind];
    }

    private Land land = new Land();
    private Land kept = null;
    private byte[] tape = {};
    private final int[] bits = new int[4];
    private final BigInteger[][] sheets = new BigInteger[4][];
    private final List<Integer> found = new ArrayList<>();

    private int no(int finding) {
        found.add(finding);
        return finding;
    }

    private static boolean in(long v, long low, long high) {
        return low <= v && v <= high;
    }

    private boolean man(int g) {
        return in(g, 0, land.men.size() - 1);
    }

    private boolean late(int n) {
        return land.minute + n > 9999;
    }

    public int leave(int row, int place, int v) {
        if (!in(row, 0, 7) || !in(place, 0, 7) || !in(v, 0, 99)) return no(B);
        int was = land.ears[row][place];
        land.ears[row][place] = v;
        return was;
    }

    public int ears(int row, int place) {
        return in(row, 0, 7) && in(place, 0, 7) ? land.ears[row][place] : no(B);
    }

    public int left(int row) {
        if (!in(row, -1, 7)) return no(B);
        int sum = 0;
        for (int r = 0; r < 8; r++) if (row == -1 || row == r) sum += Arrays.stream(land.ears[r]).sum();
        return sum;
    }

    public int rake(int row) {
        if (!in(row, 0, 7)) return no(B);
        int sum = left(row);
        land.ears[row] = new int[8];
        return sum;
    }

    public int let(int what, int v) {
        if (!in(what, 0, 2) || !in(v, 0, what == 0 ? 999 : 9999)) return no(B);
        int was = now(what + 1);
        if (what == 0) land.bell = v;
        if (what == 1) land.geese = v;
        if (what == 2) land.sheaves = v;
        return was;
    }

    public int gleaner(int kind, int row, int house) {
        if (!in(kind, 0, 5) || !in(row, 0, 7) || !in(house, 0, 4)) return no(B);
        if (land.men.size() == 9) return no(F);
        Man m = new Man();
        m.kind = kind;
        m.row = row;
        m.house = house;
        land.men.add(m);
        return land.men.size() - 1;
    }

    public int of(int gleaner, int what) {
        if (!man(gleaner) || !in(what, 0, 9)) return no(B);
        Man m = land.men.get(gleaner);
        int[] all = {m.kind, m.row, m.place, m.house, m.bundle, m.cut, m.back, m.done,
            takesOf(m.kind, land.ears[m.row][m.place]), goesOf(m.kind, land.minute)};
        return all[what];
    }

    public int set(int gleaner, int what, int v) {
        if (!man(gleaner) || !List.of(1, 2, 3, 6).contains(what)) return no(B);
        if (!in(v, 0, what == 3 ? 4 : what == 6 ? 1 : 7)) return no(B);
        int was = of(gleaner, what);
        Man m = land.men.get(gleaner);
        if (what == 1) m.row = v;
        if (what == 2) m.place = v;
        if (what == 3) m.house = v;
        if (what == 6) m.back = v;
        m.done = 0;
        return was;
    }

    public int turn(int gleaner, int kind) {
        if (!man(gleaner) || !in(kind, 0, 5)) return no(B);
        int was = land.men.get(gleaner).kind;
        land.men.get(gleaner).kind = kind;
        return was;
    }

    public int as(int gleaner, int kind) {
        if (!man(gleaner) || !in(kind, 0, 5)) return no(B);
        for (Integer k = land.men.get(gleaner).kind; k != null; k = ABOVE.get(k)) {
            if (k == kind) return land.men.get(gleaner).bundle;
        }
        return no(K);
    }

    public int takes(int kind, int n) {
        return in(kind, 0, 5) && in(n, 0, 99) ? takesOf(kind, n) : no(B);
    }

    public int lay(int gleaner) {
        if (!man(gleaner)) return no(B);
        Man m = land.men.get(gleaner);
        int was = m.bundle;
        m.bundle = m.cut = 0;
        return was;
    }

    public int minutes(int n) {
        if (!in(n, 1, 200)) return no(B);
        if (late(n)) return no(ST);
        int came = 0;
        for (int i = 0; i < n; i++) came += land.minute();
        return came;
    }

    public int rain() {
        int before = left(-1) + count(2);
        for (int[] row : land.ears) for (int p = 0; p < 8; p++) row[p] -= row[p] / 5;
        for (Man m : land.men) {
            m.bundle -= m.bundle / 10;
            m.cut -= m.cut / 10;
        }
        return before - left(-1) - count(2);
    }

    public int day() {
        int were = now(4);
        land.minute = 0;
        for (Man m : land.men) m.place = m.back = m.done = 0;
        return were;
    }

    public int now(int what) {
        if (!in(what, 0, 4)) return no(B);
        int done = (int) land.men.stream().filter(m -> m.done == 1).count();
        return new int[] {land.minute, land.bell, land.geese, land.sheaves, done}[what];
    }

    public int on(int gleaner, int n) {
        if (!man(gleaner) || !in(n, 0, 200)) return no(B);
        return late(n) ? no(ST) : land.on(n).men.get(gleaner).bundle;
    }

    public int where(int gleaner, int n) {
        if (!man(gleaner) || !in(n, 0, 200)) return no(B);
        if (late(n)) return no(ST);
        Man m = land.on(n).men.get(gleaner);
        return 10 * m.row + m.place;
    }

    public int done(int gleaner) {
        if (!man(gleaner)) return no(B);
        if (late(200)) return no(ST);
        for (int n = 0; n <= 200; n++) if (land.on(n).men.get(gleaner).done == 1) return n;
        return no(N);
    }

    public int after() {
        if (late(200)) return no(ST);
        return Arrays.stream(land.end().ears).flatMapToInt(Arrays::stream).sum();
    }

    public int most() {
        if (late(200)) return no(ST);
        List<Man> men = land.end().men;
        for (int g = 0; g < men.size(); g++) {
            int mine = men.get(g).bundle;
            if (men.stream().allMatch(m -> m.bundle <= mine)) return g;
        }
        return no(N);
    }

    public int meet(int one, int other) {
        if (!man(one) || !man(other) || one == other) return no(B);
        if (late(200)) return no(ST);
        for (int n = 0; n <= 200; n++) {
            Man a = land.on(n).men.get(one), b = land.on(n).men.get(other);
            if (a.row * 8 + a.place == b.row * 8 + b.place) return n;
        }
        return no(N);
    }

    private static int greatest(int[] all) {
        int most = Arrays.stream(all).max().getAsInt();
        for (int i = 0; ; i++) if (all[i] == most) return i;
    }

    public int begin(int gleaner) {
        if (!man(gleaner)) return no(B);
        if (late(200)) return no(ST);
        int[] all = new int[8];
        for (int row = 0; row < 8; row++) {
            int r = row;
            all[row] = land.with(l -> {
                Man m = l.men.get(gleaner);
                m.row = r;
                m.place = m.back = m.done = 0;
            }).end().men.get(gleaner).bundle;
        }
        return greatest(all);
    }

    public int best(int gleaner) {
        if (!man(gleaner)) return no(B);
        if (late(200)) return no(ST);
        int[] all = new int[6];
        for (int kind = 0; kind < 6; kind++) {
            int k = kind;
            all[kind] = land.with(l -> l.men.get(gleaner).kind = k).end().men.get(gleaner).bundle;
        }
        return greatest(all);
    }

    public int alone(int gleaner) {
        if (!man(gleaner)) return no(B);
        if (late(200)) return no(ST);
        return land.with(l -> l.men = new ArrayList<>(List.of(l.men.get(gleaner)))).end().men.get(0).bundle;
    }

    public int rival(int gleaner) {
        if (!man(gleaner)) return no(B);
        if (late(200)) return no(ST);
        int with = land.end().men.get(gleaner).bundle;
        int[] all = new int[land.men.size()];
        for (int other = 0; other < all.length; other++) {
            int o = other;
            all[o] = o == gleaner ? with
                : land.with(l -> l.men.remove(o)).end().men.get(gleaner > o ? gleaner - 1 : gleaner).bundle;
        }
        int first = greatest(all);
        return all[first] > with ? first : no(N);
    }

    public int may(int v) {
        if (!in(v, 0, 9999)) return no(B);
        if (late(200)) return no(ST);
        int most = 0;
        for (int k = 1; k <= land.men.size(); k++) {
            int many = k;
            Land end = land.with(l -> l.men = new ArrayList<>(l.men.subList(0, many))).end();
            if (end.men.stream().allMatch(m -> m.bundle >= v)) most = k;
        }
        return most;
    }

    public int leaveFor(int v) {
        if (!in(v, 0, 9999)) return no(B);
        if (late(200)) return no(ST);
        for (int e = 0; e <= 99; e++) {
            int n = e;
            Land end = land.with(l -> {
                for (int[] row : l.ears) Arrays.fill(row, n);
            }).end();
            if (end.men.stream().mapToInt(m -> m.bundle).sum() >= v) return e;
        }
        return no(N);
    }

    public int ring(int gleaner, int v, int n) {
        if (!man(gleaner) || !in(v, 0, 9999) || !in(n, 1, 200)) return no(B);
        if (late(n)) return no(ST);
        for (int bell = 999; bell >= 0; bell--) {
            int b = bell;
            if (land.with(l -> l.bell = b).on(n).men.get(gleaner).bundle >= v) return bell;
        }
        return no(N);
    }

    private int[] houseOf(int house) {
        return land.men.stream().filter(m -> m.house == house).mapToInt(m -> m.bundle).toArray();
    }

    public int shared(int house) {
        if (!in(house, 0, 4)) return no(B);
        int[] all = houseOf(house);
        return all.length == 0 ? no(N) : Arrays.stream(all).sum() / all.length;
    }

    public int over(int house) {
        if (!in(house, 0, 4)) return no(B);
        int[] all = houseOf(house);
        return all.length == 0 ? no(N) : Arrays.stream(all).sum() % all.length;
    }

    public int rich() {
        if (land.men.isEmpty()) return no(N);
        int[] all = new int[5];
        for (int h = 0; h < 5; h++) all[h] = houseOf(h).length == 0 ? -1 : shared(h);
        return greatest(all);
    }

    public int straw(int p) {
        if (!in(p, 0, 100)) return no(B);
        int set = 0;
        for (int g = 0; g < land.men.size(); g++) {
            Man m = land.men.get(g);
            if (m.bundle > 0 && m.cut * 100 >= p * m.bundle) set += 1 << g;
        }
        return set;
    }

    private static BigInteger choose(int n, int k) {
        if (k < 0 || k > n) return BigInteger.ZERO;
        BigInteger[] row = new BigInteger[k + 1];
        Arrays.fill(row, BigInteger.ZERO);
        row[0] = BigInteger.ONE;
        for (int i = 1; i <= n; i++) for (int j = k; j >= 1; j--) row[j] = row[j].add(row[j - 1]);
        return row[k];
    }

    public long heap(int one, int other, int n, int c) {
        if (!man(one) || !man(other) || one == other || !in(n, 1, 10) || !in(c, 0, n)) return no(B);
        Man a = land.men.get(one), b = land.men.get(other);
        int all = a.bundle + b.bundle;
        int cut = a.cut + b.cut;
        if (all < n) return no(B);
        if (all > 60) return no(SZ);
        return choose(cut, c).multiply(choose(all - cut, n - c)).longValueExact();
    }

    public int feed(int bytes, int n) {
        if (!in(n, 1, 4)) return no(B);
        if (tape.length + n > 120) return no(F);
        byte[] more = BigInteger.valueOf(bytes & 0xffffffffL | 1L << 32).toByteArray();
        int had = tape.length;
        tape = Arrays.copyOf(tape, had + n);
        System.arraycopy(more, more.length - n, tape, had, n);
        return tape.length;
    }

    public int wipe() {
        int had = tape.length;
        tape = new byte[0];
        return had;
    }

    private record Token(int at, String word, long number) { }

    private static final class Fault extends Exception {
        private static final long serialVersionUID = 1;
        final int at;
        Fault(int at) {
            this.at = at;
        }
    }

    private static final Pattern TOKEN = Pattern.compile(" *(?:([a-z]+)|([0-9]+)|(;)|([^ ]))", Pattern.DOTALL);

    private List<Token> tokens() {
        StringBuilder text = new StringBuilder();
        for (byte b : tape) text.append((char) (b & 255));
        List<Token> all = new ArrayList<>();
        Matcher m = TOKEN.matcher(text);
        while (m.find()) {
            if (m.group(2) != null) {
                BigInteger v = new BigInteger(m.group(2)).min(BigInteger.valueOf(1000000));
                all.add(new Token(m.start(2), "", v.longValueExact()));
            } else {
                int group = m.group(1) != null ? 1 : m.group(3) != null ? 3 : 4;
                all.add(new Token(m.start(group), m.group(group), -1));
            }
        }
        all.add(new Token(tape.length, "", -1));
        return all;
    }

    private int next;
    private List<Token> tokens;

    private int number(int most) throws Fault {
        Token t = tokens.get(next);
        if (!in(t.number, 0, most)) throw new Fault(t.at);
        next++;
        return (int) t.number;
    }

    private boolean word(String w) {
        boolean is = tokens.get(next).word.equals(w);
        if (is) next++;
        return is;
    }

    private void item(Land l) throws Fault {
        if (word("row")) {
            int row = number(7);
            if (!word("ears")) throw new Fault(tokens.get(next).at);
            l.ears[row][0] = number(99);
            for (int p = 1; p < 8 && tokens.get(next).number >= 0; p++) l.ears[row][p] = number(99);
        } else if (word("left")) {
            int v = number(99);
            for (int[] row : l.ears) Arrays.fill(row, v);
        } else if (word("bell")) {
            l.bell = number(999);
        } else if (word("geese")) {
            l.geese = number(9999);
        } else if (word("sheaves")) {
            l.sheaves = number(9999);
        } else {
            int kind = NAMES.indexOf(tokens.get(next).word);
            if (kind < 0 || l.men.size() > 8) throw new Fault(tokens.get(next).at);
            next++;
            if (!word("at")) throw new Fault(tokens.get(next).at);
            Man m = new Man();
            m.kind = kind;
            m.row = number(7);
            if (word("place")) m.place = number(7);
            if (word("house")) m.house = number(4);
            if (word("back")) m.back = 1;
            l.men.add(m);
        }
    }

    public int text() {
        Land l = land.copy();
        tokens = tokens();
        next = 0;
        int items = 0;
        try {
            do {
                item(l);
                items++;
            } while (word(";"));
            Token t = tokens.get(next);
            if (t.at != tape.length) throw new Fault(t.at);
            land = l;
            return items;
        } catch (Fault f) {
            return -1 - f.at;
        } finally {
            tape = new byte[0];
        }
    }

    private static BigInteger fit(int width, BigInteger v) {
        BigInteger whole = BigInteger.ONE.shiftLeft(width);
        BigInteger low = v.mod(whole);
        return low.testBit(width - 1) ? low.subtract(whole) : low;
    }

    public int sheet(int s, int bits, int n) {
        if (!in(s, 0, 3) || !List.of(0, 8, 16, 64).contains(bits)) return no(B);
        if (n < 0) return no(SZ);
        if (n > 40) return no(B);
        this.bits[s] = bits;
        sheets[s] = null;
        if (bits == 0) return 0;
        sheets[s] = new BigInteger[n];
        Arrays.fill(sheets[s], BigInteger.ZERO);
        return n;
    }

    public long write(int s, int i, long v) {
        if (!in(s, 0, 3)) return no(B);
        if (sheets[s] == null) return no(M);
        if (!in(i, 0, sheets[s].length - 1)) return no(B);
        long was = sheets[s][i].longValueExact();
        sheets[s][i] = fit(bits[s], BigInteger.valueOf(v));
        return was;
    }

    public int copy(int s, int from, int t, int to, int n) {
        if (!in(s, 0, 3) || !in(t, 0, 3)) return no(B);
        if (sheets[s] == null || sheets[t] == null) return no(M);
        if (bits[s] != bits[t]) return no(K);
        if (from < 0 || to < 0 || n < 0) return no(B);
        if ((long) from + n > sheets[s].length || (long) to + n > sheets[t].length) return no(B);
        BigInteger[] were = sheets[s].clone();
        for (int i = 0; i < n; i++) sheets[t][to + i] = were[from + i];
        return n;
    }

    public int lays(int s, int row) {
        if (!in(s, 0, 3)) return no(B);
        if (sheets[s] == null) return no(M);
        if (!in(row, 0, 7)) return no(B);
        int came = 0;
        for (int i = 0; i < sheets[s].length; i++) {
            int at = 8 * row + i;
            long v = sheets[s][i].longValueExact();
            if (at < 64 && in(v, 0, 99)) {
                land.ears[at / 8][at % 8] = (int) v;
                came++;
            }
        }
        return came;
    }

    public int book(int s, int n) {
        if (!in(s, 0, 3)) return no(B);
        if (sheets[s] == null) return no(M);
        if (!in(n, 0, 200)) return no(B);
        if (late(n)) return no(ST);
        int g = 0;
        for (Man m : land.on(n).men) {
            if (g < sheets[s].length) sheets[s][g++] = fit(bits[s], BigInteger.valueOf(m.bundle));
        }
        return g;
    }

    public int read(int s, int n) {
        if (!in(s, 0, 3)) return no(B);
        if (sheets[s] == null) return no(M);
        if (!in(n, 0, 200)) return no(B);
        if (late(n)) return no(ST);
        List<BigInteger> due = new ArrayList<>();
        for (Man m : land.on(n).men) due.add(fit(bits[s], BigInteger.valueOf(m.bundle)));
        int wrong = Arrays.mismatch(due.toArray(), sheets[s]);
        return wrong < 0 ? 0 : 1 + wrong;
    }

    public int image() {
        kept = land.copy();
        return 1;
    }

    public int undo() {
        if (kept == null) return no(N);
        land = kept.copy();
        return land.men.size();
    }

    public int tear() {
        int had = kept == null ? 0 : 1;
        kept = null;
        return had;
    }

    public int count(int what) {
        if (!in(what, 0, 3)) return no(B);
        int bundles = land.men.stream().mapToInt(m -> m.bundle).sum();
        int cut = land.men.stream().mapToInt(m -> m.cut).sum();
        return new int[] {land.men.size(), tape.length, bundles, cut}[what];
    }

    public int status(int which) {
        if (!in(which, -1, 6)) return no(B);
        return (int) found.stream().filter(f -> which == -1 || f == B - which).count();
    }
}
