import java.util.Arrays;

/**
 * A field of rows in which ears were left, and the gleaners who go through it.
 *
 * All rows and gleaners are made with the object and used again, so that no call makes anything:
 * what goes ON is tried on a second field, and an image is kept in a third one.
 */
public final class EarRows {
    private static final int BEYOND = -1000000001;
    private static final int FULL = -1000000002;
    private static final int KIND = -1000000003;
    private static final int NONE = -1000000004;
    private static final int STATE = -1000000005;
    private static final int MISSING = -1000000006;
    private static final int SIZE = -1000000007;
    private static final int FINDINGS = 7;

    private static final int ROWS = 8;
    private static final int PLACES = 8;
    private static final int MOST_EARS = 99;
    private static final int MOST_SHEAVES = 9999;
    private static final int LAST_MINUTE = 9999;
    private static final int LAST_BELL = 999;
    private static final int LAST_GEESE = 9999;
    private static final int MOST_GLEANERS = 9;
    private static final int HOUSES = 5;
    private static final int MOST_WANTED = 9999;
    private static final int FARTHEST_ON = 200;

    private static final int KINDS = 6;
    private static final int GLEANER = 0;
    private static final int CHILD = 1;
    private static final int QUICK = 2;
    private static final int OLD = 3;
    private static final int SLY = 4;
    private static final int WIDOW = 5;
    private static final int NO_KIND = -1;

    private static final int TAPE_LENGTH = 120;
    private static final int SHEETS = 4;
    private static final int SHEET_LENGTH = 40;
    private static final int MOST_DRAWN = 10;
    private static final int LARGEST_HEAP = 60;

    private final Field field = new Field();
    private final Field trial = new Field();
    private final Field kept = new Field();
    private boolean isKept = false;
    private final Tape tape = new Tape();
    private final TextReader reader = new TextReader(tape);
    private final Sheet[] sheets = new Sheet[SHEETS];
    private final int[] refusals = new int[FINDINGS];

    public EarRows() {
        for (int s = 0; s < SHEETS; s++) {
            sheets[s] = new Sheet();
        }
    }

    // ---- the field

    public int leave(int row, int place, int v) {
        if (!isRow(row) || !isPlace(place) || !isWithin(v, 0, MOST_EARS)) {
            return refuse(BEYOND);
        }
        int before = field.earsAt(row, place);
        field.putEars(row, place, v);
        return before;
    }

    public int ears(int row, int place) {
        if (!isRow(row) || !isPlace(place)) {
            return refuse(BEYOND);
        }
        return field.earsAt(row, place);
    }

    public int left(int row) {
        if (row == -1) {
            return field.earsOfAllRows();
        }
        if (!isRow(row)) {
            return refuse(BEYOND);
        }
        return field.earsOfRow(row);
    }

    public int rake(int row) {
        if (!isRow(row)) {
            return refuse(BEYOND);
        }
        int gone = field.earsOfRow(row);
        field.clearRow(row);
        return gone;
    }

    public int let(int what, int v) {
        if (!mayLet(what, v)) {
            return refuse(BEYOND);
        }
        int before;
        if (what == 0) {
            before = field.bell;
            field.bell = v;
        } else if (what == 1) {
            before = field.geese;
            field.geese = v;
        } else {
            before = field.sheaves;
            field.sheaves = v;
        }
        return before;
    }

    private static boolean mayLet(int what, int v) {
        switch (what) {
            case 0: return isWithin(v, 0, LAST_BELL);
            case 1: return isWithin(v, 0, LAST_GEESE);
            case 2: return isWithin(v, 0, MOST_SHEAVES);
            default: return false;
        }
    }

    // ---- gleaners

    public int gleaner(int kind, int row, int house) {
        if (!isKind(kind) || !isRow(row) || !isHouse(house)) {
            return refuse(BEYOND);
        }
        if (field.isFull()) {
            return refuse(FULL);
        }
        field.addGleaner(kind, row, house);
        return field.size - 1;
    }

    public int of(int gleaner, int what) {
        if (!isGleaner(gleaner)) {
            return refuse(BEYOND);
        }
        Gleaner g = field.gleaners[gleaner];
        switch (what) {
            case 0: return g.kind;
            case 1: return g.row;
            case 2: return g.place;
            case 3: return g.house;
            case 4: return g.bundle;
            case 5: return g.cut;
            case 6: return g.back ? 1 : 0;
            case 7: return g.done ? 1 : 0;
            case 8: return Kind.share(g.kind, field.earsAt(g.row, g.place));
            case 9: return Kind.pace(g.kind, field.minute);
            default: return refuse(BEYOND);
        }
    }

    public int set(int gleaner, int what, int v) {
        if (!isGleaner(gleaner) || !maySet(what, v)) {
            return refuse(BEYOND);
        }
        Gleaner g = field.gleaners[gleaner];
        int before;
        if (what == 1) {
            before = g.row;
            g.row = v;
        } else if (what == 2) {
            before = g.place;
            g.place = v;
        } else if (what == 3) {
            before = g.house;
            g.house = v;
        } else {
            before = g.back ? 1 : 0;
            g.back = v == 1;
        }
        g.done = false;
        return before;
    }

    private static boolean maySet(int what, int v) {
        switch (what) {
            case 1: return isRow(v);
            case 2: return isPlace(v);
            case 3: return isHouse(v);
            case 6: return isWithin(v, 0, 1);
            default: return false;
        }
    }

    public int turn(int gleaner, int kind) {
        if (!isGleaner(gleaner) || !isKind(kind)) {
            return refuse(BEYOND);
        }
        int before = field.gleaners[gleaner].kind;
        field.gleaners[gleaner].kind = kind;
        return before;
    }

    public int as(int gleaner, int kind) {
        if (!isGleaner(gleaner) || !isKind(kind)) {
            return refuse(BEYOND);
        }
        Gleaner g = field.gleaners[gleaner];
        if (!Kind.isOneOf(g.kind, kind)) {
            return refuse(KIND);
        }
        return g.bundle;
    }

    public int takes(int kind, int n) {
        if (!isKind(kind) || !isWithin(n, 0, MOST_EARS)) {
            return refuse(BEYOND);
        }
        return Kind.share(kind, n);
    }

    public int lay(int gleaner) {
        if (!isGleaner(gleaner)) {
            return refuse(BEYOND);
        }
        Gleaner g = field.gleaners[gleaner];
        int laid = g.bundle;
        g.bundle = 0;
        g.cut = 0;
        return laid;
    }

    // ---- minutes

    public int minutes(int n) {
        if (!isWithin(n, 1, FARTHEST_ON)) {
            return refuse(BEYOND);
        }
        if (isTooLateFor(n)) {
            return refuse(STATE);
        }
        return field.goOn(n);
    }

    public int rain() {
        return field.rainOnAll();
    }

    public int day() {
        int done = field.countDone();
        field.startDay();
        return done;
    }

    public int now(int what) {
        switch (what) {
            case 0: return field.minute;
            case 1: return field.bell;
            case 2: return field.geese;
            case 3: return field.sheaves;
            case 4: return field.countDone();
            default: return refuse(BEYOND);
        }
    }

    // ---- on

    public int on(int gleaner, int n) {
        if (!isGleaner(gleaner) || !isWithin(n, 0, FARTHEST_ON)) {
            return refuse(BEYOND);
        }
        if (isTooLateFor(n)) {
            return refuse(STATE);
        }
        tryOn(n);
        return trial.gleaners[gleaner].bundle;
    }

    public int where(int gleaner, int n) {
        if (!isGleaner(gleaner) || !isWithin(n, 0, FARTHEST_ON)) {
            return refuse(BEYOND);
        }
        if (isTooLateFor(n)) {
            return refuse(STATE);
        }
        tryOn(n);
        Gleaner g = trial.gleaners[gleaner];
        return 10 * g.row + g.place;
    }

    public int done(int gleaner) {
        if (!isGleaner(gleaner)) {
            return refuse(BEYOND);
        }
        if (isTooLateFor(FARTHEST_ON)) {
            return refuse(STATE);
        }
        trial.becomeAs(field);
        for (int n = 0; n <= FARTHEST_ON; n++) {
            if (trial.gleaners[gleaner].done) {
                return n;
            }
            trial.passMinute();
        }
        return refuse(NONE);
    }

    public int after() {
        if (isTooLateFor(FARTHEST_ON)) {
            return refuse(STATE);
        }
        trial.becomeAs(field);
        trial.goToEnd();
        return trial.earsOfAllRows();
    }

    public int most() {
        if (isTooLateFor(FARTHEST_ON)) {
            return refuse(STATE);
        }
        if (field.size == 0) {
            return refuse(NONE);
        }
        trial.becomeAs(field);
        trial.goToEnd();
        int first = 0;
        for (int g = 1; g < trial.size; g++) {
            if (trial.gleaners[g].bundle > trial.gleaners[first].bundle) {
                first = g;
            }
        }
        return first;
    }

    public int meet(int one, int other) {
        if (!areTwo(one, other)) {
            return refuse(BEYOND);
        }
        if (isTooLateFor(FARTHEST_ON)) {
            return refuse(STATE);
        }
        trial.becomeAs(field);
        for (int n = 0; n <= FARTHEST_ON; n++) {
            if (trial.gleaners[one].isBeside(trial.gleaners[other])) {
                return n;
            }
            trial.passMinute();
        }
        return refuse(NONE);
    }

    private void tryOn(int n) {
        trial.becomeAs(field);
        trial.goOn(n);
    }

    // ---- where to begin, how many

    public int begin(int gleaner) {
        if (!isGleaner(gleaner)) {
            return refuse(BEYOND);
        }
        if (isTooLateFor(FARTHEST_ON)) {
            return refuse(STATE);
        }
        int bestRow = 0;
        int greatest = -1;
        for (int row = 0; row < ROWS; row++) {
            trial.becomeAs(field);
            trial.gleaners[gleaner].row = row;
            trial.gleaners[gleaner].goToStart();
            trial.goToEnd();
            if (trial.gleaners[gleaner].bundle > greatest) {
                greatest = trial.gleaners[gleaner].bundle;
                bestRow = row;
            }
        }
        return bestRow;
    }

    public int best(int gleaner) {
        if (!isGleaner(gleaner)) {
            return refuse(BEYOND);
        }
        if (isTooLateFor(FARTHEST_ON)) {
            return refuse(STATE);
        }
        int bestKind = GLEANER;
        int greatest = -1;
        for (int kind = 0; kind < KINDS; kind++) {
            trial.becomeAs(field);
            trial.gleaners[gleaner].kind = kind;
            trial.goToEnd();
            if (trial.gleaners[gleaner].bundle > greatest) {
                greatest = trial.gleaners[gleaner].bundle;
                bestKind = kind;
            }
        }
        return bestKind;
    }

    public int alone(int gleaner) {
        if (!isGleaner(gleaner)) {
            return refuse(BEYOND);
        }
        if (isTooLateFor(FARTHEST_ON)) {
            return refuse(STATE);
        }
        trial.becomeAs(field);
        for (int g = 0; g < trial.size; g++) {
            if (g != gleaner) {
                trial.gleaners[g].stayOut();
            }
        }
        trial.goToEnd();
        return trial.gleaners[gleaner].bundle;
    }

    public int rival(int gleaner) {
        if (!isGleaner(gleaner)) {
            return refuse(BEYOND);
        }
        if (isTooLateFor(FARTHEST_ON)) {
            return refuse(STATE);
        }
        trial.becomeAs(field);
        trial.goToEnd();
        int greatest = trial.gleaners[gleaner].bundle;
        int worst = -1;
        for (int g = 0; g < field.size; g++) {
            if (g != gleaner) {
                trial.becomeAs(field);
                trial.gleaners[g].stayOut();
                trial.goToEnd();
                if (trial.gleaners[gleaner].bundle > greatest) {
                    greatest = trial.gleaners[gleaner].bundle;
                    worst = g;
                }
            }
        }
        return worst >= 0 ? worst : refuse(NONE);
    }

    public int may(int v) {
        if (!isWithin(v, 0, MOST_WANTED)) {
            return refuse(BEYOND);
        }
        if (isTooLateFor(FARTHEST_ON)) {
            return refuse(STATE);
        }
        for (int n = field.size; n > 0; n--) {
            trial.becomeAs(field);
            trial.size = n;
            trial.goToEnd();
            if (trial.eachHas(v)) {
                return n;
            }
        }
        return 0;
    }

    public int leaveFor(int v) {
        if (!isWithin(v, 0, MOST_WANTED)) {
            return refuse(BEYOND);
        }
        if (isTooLateFor(FARTHEST_ON)) {
            return refuse(STATE);
        }
        int without = field.bundlesOfAll() + field.sheaves;
        for (int n = 0; n <= MOST_EARS; n++) {
            // A trial is dear, and needless where not even all the ears there are would do.
            if (without + ROWS * PLACES * n >= v) {
                trial.becomeAs(field);
                trial.leaveEverywhere(n);
                trial.goToEnd();
                if (trial.bundlesOfAll() >= v) {
                    return n;
                }
            }
        }
        return refuse(NONE);
    }

    public int ring(int gleaner, int v, int n) {
        if (!isGleaner(gleaner) || !isWithin(v, 0, MOST_WANTED) || !isWithin(n, 1, FARTHEST_ON)) {
            return refuse(BEYOND);
        }
        if (isTooLateFor(n)) {
            return refuse(STATE);
        }
        // Up to 201 trials: needless where not even all the ears there are would do.
        if (field.gleaners[gleaner].bundle + field.earsOfAllRows() + field.sheaves < v) {
            return refuse(NONE);
        }
        // All bells up to MINUTE come to the same, and so do all behind the n MINUTES:
        // of each such run only the latest one is tried.
        int earliest = Math.min(field.minute, LAST_BELL);
        int tooLate = field.minute + n;
        for (int bell = LAST_BELL; bell >= earliest; bell = Math.min(bell, tooLate) - 1) {
            trial.becomeAs(field);
            trial.bell = bell;
            trial.goOn(n);
            if (trial.gleaners[gleaner].bundle >= v) {
                return bell;
            }
        }
        return refuse(NONE);
    }

    // ---- houses, straw

    public int shared(int house) {
        if (!isHouse(house)) {
            return refuse(BEYOND);
        }
        if (field.countOfHouse(house) == 0) {
            return refuse(NONE);
        }
        return field.shareOfHouse(house);
    }

    public int over(int house) {
        if (!isHouse(house)) {
            return refuse(BEYOND);
        }
        if (field.countOfHouse(house) == 0) {
            return refuse(NONE);
        }
        return field.bundlesOfHouse(house) - field.shareOfHouse(house) * field.countOfHouse(house);
    }

    public int rich() {
        if (field.size == 0) {
            return refuse(NONE);
        }
        int richest = 0;
        int greatest = -1;
        for (int house = 0; house < HOUSES; house++) {
            if (field.countOfHouse(house) > 0 && field.shareOfHouse(house) > greatest) {
                greatest = field.shareOfHouse(house);
                richest = house;
            }
        }
        return richest;
    }

    public int straw(int p) {
        if (!isWithin(p, 0, 100)) {
            return refuse(BEYOND);
        }
        int found = 0;
        for (int g = 0; g < field.size; g++) {
            if (field.gleaners[g].hasCutOf(p)) {
                found |= 1 << g;
            }
        }
        return found;
    }

    public long heap(int one, int other, int n, int c) {
        if (!areTwo(one, other) || !isWithin(n, 1, MOST_DRAWN) || !isWithin(c, 0, n)) {
            return refuse(BEYOND);
        }
        int all = field.gleaners[one].bundle + field.gleaners[other].bundle;
        if (all < n) {
            return refuse(BEYOND);
        }
        if (all > LARGEST_HEAP) {
            return refuse(SIZE);
        }
        int cut = field.gleaners[one].cut + field.gleaners[other].cut;
        return waysToTake(cut, c) * waysToTake(all - cut, n - c);
    }

    private static long waysToTake(int all, int n) {
        if (n > all) {
            return 0;
        }
        long ways = 1;
        for (int i = 1; i <= n; i++) {
            ways = ways * (all - n + i) / i;
        }
        return ways;
    }

    // ---- the text

    public int feed(int bytes, int n) {
        if (!isWithin(n, 1, 4)) {
            return refuse(BEYOND);
        }
        if (tape.size + n > TAPE_LENGTH) {
            return refuse(FULL);
        }
        for (int i = n - 1; i >= 0; i--) {
            tape.append((byte) (bytes >> (8 * i)));
        }
        return tape.size;
    }

    public int wipe() {
        int had = tape.size;
        tape.size = 0;
        return had;
    }

    public int text() {
        // A fault may stand behind items that came already: they come to the trial first.
        trial.becomeAs(field);
        int items = reader.readAll(trial);
        if (items > 0) {
            field.becomeAs(trial);
        }
        tape.size = 0;
        return items;
    }

    // ---- sheets

    public int sheet(int s, int bits, int n) {
        if (!isSheet(s) || !isBits(bits)) {
            return refuse(BEYOND);
        }
        if (n < 0) {
            return refuse(SIZE);
        }
        if (n > SHEET_LENGTH) {
            return refuse(BEYOND);
        }
        sheets[s].clear(bits, bits == 0 ? 0 : n);
        return sheets[s].size;
    }

    public long write(int s, int i, long v) {
        if (!isSheet(s)) {
            return refuse(BEYOND);
        }
        if (sheets[s].isMissing()) {
            return refuse(MISSING);
        }
        if (!isWithin(i, 0, sheets[s].size - 1)) {
            return refuse(BEYOND);
        }
        long before = sheets[s].numbers[i];
        sheets[s].numbers[i] = sheets[s].fit(v);
        return before;
    }

    public int copy(int s, int from, int t, int to, int n) {
        if (!isSheet(s) || !isSheet(t)) {
            return refuse(BEYOND);
        }
        if (sheets[s].isMissing() || sheets[t].isMissing()) {
            return refuse(MISSING);
        }
        if (sheets[s].bits != sheets[t].bits) {
            return refuse(KIND);
        }
        if (!sheets[s].hasFrom(from, n) || !sheets[t].hasFrom(to, n)) {
            return refuse(BEYOND);
        }
        System.arraycopy(sheets[s].numbers, from, sheets[t].numbers, to, n);
        return n;
    }

    public int lays(int s, int row) {
        if (!isSheet(s)) {
            return refuse(BEYOND);
        }
        if (sheets[s].isMissing()) {
            return refuse(MISSING);
        }
        if (!isRow(row)) {
            return refuse(BEYOND);
        }
        int came = 0;
        for (int i = 0; i < sheets[s].size; i++) {
            long v = sheets[s].numbers[i];
            int to = row + i / PLACES;
            if (v >= 0 && v <= MOST_EARS && isRow(to)) {
                field.putEars(to, i % PLACES, (int) v);
                came++;
            }
        }
        return came;
    }

    public int book(int s, int n) {
        int finding = whyNoBook(s, n);
        if (finding != 0) {
            return refuse(finding);
        }
        tryOn(n);
        int written = Math.min(sheets[s].size, trial.size);
        for (int g = 0; g < written; g++) {
            sheets[s].numbers[g] = sheets[s].fit(trial.gleaners[g].bundle);
        }
        return written;
    }

    public int read(int s, int n) {
        int finding = whyNoBook(s, n);
        if (finding != 0) {
            return refuse(finding);
        }
        tryOn(n);
        int both = Math.min(sheets[s].size, trial.size);
        for (int g = 0; g < both; g++) {
            if (sheets[s].numbers[g] != sheets[s].fit(trial.gleaners[g].bundle)) {
                return 1 + g;
            }
        }
        // The whole sheet is the book: a number behind those of all GLEANERS is as wrong as one that lacks.
        return sheets[s].size == trial.size ? 0 : 1 + both;
    }

    private int whyNoBook(int s, int n) {
        if (!isSheet(s)) {
            return BEYOND;
        }
        if (sheets[s].isMissing()) {
            return MISSING;
        }
        if (!isWithin(n, 0, FARTHEST_ON)) {
            return BEYOND;
        }
        return isTooLateFor(n) ? STATE : 0;
    }

    // ---- images

    public int image() {
        kept.becomeAs(field);
        isKept = true;
        return 1;
    }

    public int undo() {
        if (!isKept) {
            return refuse(NONE);
        }
        field.becomeAs(kept);
        return field.size;
    }

    public int tear() {
        int torn = isKept ? 1 : 0;
        isKept = false;
        return torn;
    }

    public int count(int what) {
        switch (what) {
            case 0: return field.size;
            case 1: return tape.size;
            case 2: return field.bundlesOfAll();
            case 3: return field.cutOfAll();
            default: return refuse(BEYOND);
        }
    }

    public int status(int which) {
        if (!isWithin(which, -1, FINDINGS - 1)) {
            return refuse(BEYOND);
        }
        if (which >= 0) {
            return refusals[which];
        }
        int all = 0;
        for (int i = 0; i < FINDINGS; i++) {
            all += refusals[i];
        }
        return all;
    }

    // ---- what may be asked

    private int refuse(int finding) {
        int which = BEYOND - finding;
        if (isWithin(which, 0, FINDINGS - 1)) {
            refusals[which]++;
        }
        return finding;
    }

    private boolean isGleaner(int gleaner) {
        return isWithin(gleaner, 0, field.size - 1);
    }

    private boolean areTwo(int one, int other) {
        return isGleaner(one) && isGleaner(other) && one != other;
    }

    private boolean isTooLateFor(int n) {
        return field.minute + n > LAST_MINUTE;
    }

    private static boolean isRow(int row) {
        return isWithin(row, 0, ROWS - 1);
    }

    private static boolean isPlace(int place) {
        return isWithin(place, 0, PLACES - 1);
    }

    private static boolean isHouse(int house) {
        return isWithin(house, 0, HOUSES - 1);
    }

    private static boolean isKind(int kind) {
        return isWithin(kind, 0, KINDS - 1);
    }

    private static boolean isSheet(int s) {
        return isWithin(s, 0, SHEETS - 1);
    }

    private static boolean isBits(int bits) {
        return bits == 0 || bits == 8 || bits == 16 || bits == 64;
    }

    private static boolean isWithin(int v, int least, int greatest) {
        return v >= least && v <= greatest;
    }

    /** What a gleaner does by its kind. */
    private static final class Kind {
        /** TAKES where n EARS are. */
        static int share(int kind, int n) {
            switch (kind) {
                case CHILD: return Math.min(1, n);
                case QUICK:
                case SLY: return n / 3;
                case OLD: return n;
                case WIDOW: return Math.min(9, n);
                default: return Math.min(n / 2 + 1, n);
            }
        }

        /** DRAWS, were there enough in the SHEAVES. */
        static int pull(int kind, int minute) {
            return kind == SLY && minute % 2 == 0 ? 2 : 0;
        }

        /** GOES. */
        static int pace(int kind, int minute) {
            switch (kind) {
                case QUICK:
                case SLY: return 2;
                case OLD:
                case WIDOW: return minute % 2 == 0 ? 1 : 0;
                default: return 1;
            }
        }

        static boolean isOneOf(int kind, int wanted) {
            int k = kind;
            for (int depth = 0; depth < KINDS && k != NO_KIND; depth++) {
                if (k == wanted) {
                    return true;
                }
                k = above(k);
            }
            return false;
        }

        private static int above(int kind) {
            switch (kind) {
                case CHILD:
                case QUICK:
                case OLD: return GLEANER;
                case SLY: return QUICK;
                case WIDOW: return OLD;
                default: return NO_KIND;
            }
        }
    }

    private static final class Gleaner {
        int kind;
        int row;
        int place;
        int house;
        int bundle;
        int cut;
        boolean back;
        boolean done;

        void becomeAs(Gleaner other) {
            kind = other.kind;
            row = other.row;
            place = other.place;
            house = other.house;
            bundle = other.bundle;
            cut = other.cut;
            back = other.back;
            done = other.done;
        }

        void goToStart() {
            place = 0;
            back = false;
            done = false;
        }

        /** One that is DONE neither takes nor draws, so it is as if it weren't there. */
        void stayOut() {
            done = true;
        }

        void step() {
            if (back && place > 0) {
                place--;
            } else if (!back && place < PLACES - 1) {
                place++;
            } else if (row < ROWS - 1) {
                row++;
                back = !back;
            } else {
                done = true;
            }
        }

        boolean isBeside(Gleaner other) {
            return row == other.row && place == other.place;
        }

        boolean hasCutOf(int hundredths) {
            return bundle > 0 && 100L * cut >= (long) hundredths * bundle;
        }
    }

    /** All that section 1 of the document tells, but for the tape. */
    private static final class Field {
        final int[] places = new int[ROWS * PLACES];
        final Gleaner[] gleaners = new Gleaner[MOST_GLEANERS];
        int size = 0;
        int sheaves = 500;
        int minute = 0;
        int bell = 10;
        int geese = LAST_GEESE;

        Field() {
            for (int g = 0; g < MOST_GLEANERS; g++) {
                gleaners[g] = new Gleaner();
            }
        }

        void becomeAs(Field other) {
            System.arraycopy(other.places, 0, places, 0, ROWS * PLACES);
            for (int g = 0; g < other.size; g++) {
                gleaners[g].becomeAs(other.gleaners[g]);
            }
            size = other.size;
            sheaves = other.sheaves;
            minute = other.minute;
            bell = other.bell;
            geese = other.geese;
        }

        int earsAt(int row, int place) {
            return isRow(row) && isPlace(place) ? places[row * PLACES + place] : 0;
        }

        void putEars(int row, int place, int v) {
            if (isRow(row) && isPlace(place)) {
                places[row * PLACES + place] = v;
            }
        }

        int earsOfRow(int row) {
            int sum = 0;
            for (int place = 0; place < PLACES; place++) {
                sum += earsAt(row, place);
            }
            return sum;
        }

        int earsOfAllRows() {
            int sum = 0;
            for (int row = 0; row < ROWS; row++) {
                sum += earsOfRow(row);
            }
            return sum;
        }

        void clearRow(int row) {
            if (isRow(row)) {
                for (int place = 0; place < PLACES; place++) {
                    places[row * PLACES + place] = 0;
                }
            }
        }

        void leaveEverywhere(int v) {
            Arrays.fill(places, v);
        }

        boolean isFull() {
            return size >= MOST_GLEANERS;
        }

        void addGleaner(int kind, int row, int house) {
            if (!isFull()) {
                Gleaner g = gleaners[size];
                g.kind = kind;
                g.row = row;
                g.house = house;
                g.bundle = 0;
                g.cut = 0;
                g.goToStart();
                size++;
            }
        }

        /** The ears that came into bundles by n minutes. */
        int goOn(int n) {
            int came = 0;
            for (int i = 0; i < n; i++) {
                came += passMinute();
            }
            return came;
        }

        void goToEnd() {
            for (int i = 0; i < FARTHEST_ON && isAnyOnTheWay(); i++) {
                passMinute();
            }
        }

        private boolean isAnyOnTheWay() {
            for (int i = 0; i < size; i++) {
                if (!gleaners[i].done) {
                    return true;
                }
            }
            return false;
        }

        int passMinute() {
            if (minute == geese) {
                clearRow(0);
                clearRow(1);
            }
            int came = 0;
            if (minute >= bell) {
                came = takeAll();
                goAll();
            }
            minute++;
            return came;
        }

        private int takeAll() {
            int came = 0;
            for (int i = 0; i < size; i++) {
                Gleaner g = gleaners[i];
                int at = g.row * PLACES + g.place;
                if (!g.done && at >= 0 && at < places.length) {
                    int taken = Kind.share(g.kind, places[at]);
                    int drawn = Math.min(Kind.pull(g.kind, minute), sheaves);
                    places[at] -= taken;
                    sheaves -= drawn;
                    g.bundle += taken + drawn;
                    g.cut += drawn;
                    came += taken + drawn;
                }
            }
            return came;
        }

        private void goAll() {
            for (int i = 0; i < size; i++) {
                Gleaner g = gleaners[i];
                int steps = Kind.pace(g.kind, minute);
                for (int s = 0; s < steps && !g.done; s++) {
                    g.step();
                }
            }
        }

        /** The ears that are gone by it. */
        int rainOnAll() {
            int gone = 0;
            for (int i = 0; i < ROWS * PLACES; i++) {
                int lost = places[i] / 5;
                places[i] -= lost;
                gone += lost;
            }
            for (int i = 0; i < size; i++) {
                Gleaner g = gleaners[i];
                int lost = g.bundle / 10;
                g.bundle -= lost;
                g.cut -= g.cut / 10;
                gone += lost;
            }
            return gone;
        }

        void startDay() {
            minute = 0;
            for (int i = 0; i < size; i++) {
                gleaners[i].goToStart();
            }
        }

        int countDone() {
            int n = 0;
            for (int i = 0; i < size; i++) {
                if (gleaners[i].done) {
                    n++;
                }
            }
            return n;
        }

        boolean eachHas(int v) {
            for (int i = 0; i < size; i++) {
                if (gleaners[i].bundle < v) {
                    return false;
                }
            }
            return true;
        }

        int bundlesOfAll() {
            int sum = 0;
            for (int i = 0; i < size; i++) {
                sum += gleaners[i].bundle;
            }
            return sum;
        }

        int cutOfAll() {
            int sum = 0;
            for (int i = 0; i < size; i++) {
                sum += gleaners[i].cut;
            }
            return sum;
        }

        int countOfHouse(int house) {
            int n = 0;
            for (int i = 0; i < size; i++) {
                if (gleaners[i].house == house) {
                    n++;
                }
            }
            return n;
        }

        int bundlesOfHouse(int house) {
            int sum = 0;
            for (int i = 0; i < size; i++) {
                if (gleaners[i].house == house) {
                    sum += gleaners[i].bundle;
                }
            }
            return sum;
        }

        int shareOfHouse(int house) {
            int n = countOfHouse(house);
            return n == 0 ? 0 : bundlesOfHouse(house) / n;
        }
    }

    private static final class Tape {
        final byte[] bytes = new byte[TAPE_LENGTH];
        int size = 0;

        void append(byte b) {
            if (size < TAPE_LENGTH) {
                bytes[size] = b;
                size++;
            }
        }

        /** 0, which begins no token, where there is none. */
        int byteAt(int i) {
            return i >= 0 && i < size ? bytes[i] : 0;
        }
    }

    /** Cuts the tape into tokens; one of them is looked at. */
    private static final class Tokens {
        static final int END = 0;
        static final int WORD = 1;
        static final int NUMBER = 2;
        static final int SEMICOLON = 3;
        static final int BLANK = 4;
        static final int NO_TOKEN = 5;

        static final int TOO_GREAT = 10000;

        private final Tape tape;
        private int next;
        int start;
        int sort;
        int number;

        Tokens(Tape tape) {
            this.tape = tape;
        }

        void restart() {
            next = 0;
            advance();
        }

        void advance() {
            while (next < tape.size && sortAt(next) == BLANK) {
                next++;
            }
            start = next;
            sort = sortAt(start);
            number = 0;
            while (next < tape.size && sortAt(next) == sort && (next == start || isLong())) {
                if (sort == NUMBER) {
                    // A tape holds numbers of far more digits than an int.
                    number = Math.min(10 * number + tape.byteAt(next) - '0', TOO_GREAT);
                }
                next++;
            }
        }

        private boolean isLong() {
            return sort == WORD || sort == NUMBER;
        }

        private int sortAt(int i) {
            if (i < 0 || i >= tape.size) {
                return END;
            }
            int b = tape.bytes[i];
            if (b >= 'a' && b <= 'z') {
                return WORD;
            }
            if (b >= '0' && b <= '9') {
                return NUMBER;
            }
            if (b == ';') {
                return SEMICOLON;
            }
            return b == ' ' ? BLANK : NO_TOKEN;
        }

        boolean isWord(String word) {
            if (sort != WORD || next - start != word.length()) {
                return false;
            }
            for (int i = 0; i < word.length(); i++) {
                if (tape.byteAt(start + i) != word.charAt(i)) {
                    return false;
                }
            }
            return true;
        }
    }

    /**
     * Reads a text into a field. Where a step answers false (or NO_NUMBER), the token that is
     * looked at can't stand there, and its start is the fault.
     */
    private static final class TextReader {
        static final int NO_NUMBER = -1;

        private final Tokens tokens;

        TextReader(Tape tape) {
            tokens = new Tokens(tape);
        }

        /** How many items; with a fault -1 less its place. */
        int readAll(Field field) {
            tokens.restart();
            int items = 0;
            do {
                if (!readItem(field)) {
                    return -1 - tokens.start;
                }
                items++;
            } while (items < TAPE_LENGTH && passSemicolon());
            return tokens.sort == Tokens.END ? items : -1 - tokens.start;
        }

        private boolean readItem(Field field) {
            if (passWord("row")) {
                return readRow(field);
            }
            if (passWord("left")) {
                return readLeft(field);
            }
            if (passWord("bell")) {
                return readBell(field);
            }
            if (passWord("geese")) {
                return readGeese(field);
            }
            if (passWord("sheaves")) {
                return readSheaves(field);
            }
            return readGleaner(field);
        }

        private boolean readRow(Field field) {
            int row = passNumber(ROWS - 1);
            if (row == NO_NUMBER || !passWord("ears")) {
                return false;
            }
            for (int place = 0; place < PLACES; place++) {
                if (place > 0 && tokens.sort != Tokens.NUMBER) {
                    return true;
                }
                int v = passNumber(MOST_EARS);
                if (v == NO_NUMBER) {
                    return false;
                }
                field.putEars(row, place, v);
            }
            return true;
        }

        private boolean readLeft(Field field) {
            int v = passNumber(MOST_EARS);
            if (v == NO_NUMBER) {
                return false;
            }
            field.leaveEverywhere(v);
            return true;
        }

        private boolean readBell(Field field) {
            int v = passNumber(LAST_BELL);
            if (v == NO_NUMBER) {
                return false;
            }
            field.bell = v;
            return true;
        }

        private boolean readGeese(Field field) {
            int v = passNumber(LAST_GEESE);
            if (v == NO_NUMBER) {
                return false;
            }
            field.geese = v;
            return true;
        }

        private boolean readSheaves(Field field) {
            int v = passNumber(MOST_SHEAVES);
            if (v == NO_NUMBER) {
                return false;
            }
            field.sheaves = v;
            return true;
        }

        private boolean readGleaner(Field field) {
            int kind = kindNamed();
            if (kind == NO_KIND || field.isFull()) {
                return false;
            }
            tokens.advance();
            if (!passWord("at")) {
                return false;
            }
            int row = passNumber(ROWS - 1);
            if (row == NO_NUMBER) {
                return false;
            }
            int place = passWord("place") ? passNumber(PLACES - 1) : 0;
            if (place == NO_NUMBER) {
                return false;
            }
            int house = passWord("house") ? passNumber(HOUSES - 1) : 0;
            if (house == NO_NUMBER) {
                return false;
            }
            field.addGleaner(kind, row, house);
            field.gleaners[field.size - 1].place = place;
            field.gleaners[field.size - 1].back = passWord("back");
            return true;
        }

        private int kindNamed() {
            for (int kind = 0; kind < KINDS; kind++) {
                if (tokens.isWord(nameOf(kind))) {
                    return kind;
                }
            }
            return NO_KIND;
        }

        private static String nameOf(int kind) {
            switch (kind) {
                case CHILD: return "child";
                case QUICK: return "quick";
                case OLD: return "old";
                case SLY: return "sly";
                case WIDOW: return "widow";
                default: return "gleaner";
            }
        }

        private boolean passSemicolon() {
            if (tokens.sort != Tokens.SEMICOLON) {
                return false;
            }
            tokens.advance();
            return true;
        }

        private boolean passWord(String word) {
            if (!tokens.isWord(word)) {
                return false;
            }
            tokens.advance();
            return true;
        }

        private int passNumber(int greatest) {
            if (tokens.sort != Tokens.NUMBER || tokens.number > greatest) {
                return NO_NUMBER;
            }
            int number = tokens.number;
            tokens.advance();
            return number;
        }
    }

    private static final class Sheet {
        final long[] numbers = new long[SHEET_LENGTH];
        int bits = 0;
        int size = 0;

        boolean isMissing() {
            return bits == 0;
        }

        void clear(int newBits, int newSize) {
            bits = newBits;
            size = newSize;
            Arrays.fill(numbers, 0L);
        }

        /** The lowest bits of v, as Java's byte, short and long hold them. */
        long fit(long v) {
            if (bits == 8) {
                return (byte) v;
            }
            return bits == 16 ? (short) v : v;
        }

        boolean hasFrom(int from, int n) {
            return from >= 0 && n >= 0 && (long) from + n <= size;
        }
    }
}
