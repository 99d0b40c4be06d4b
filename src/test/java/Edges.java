import java.io.IOException;
import java.lang.reflect.Method;
import java.lang.reflect.Modifier;
import java.nio.charset.StandardCharsets;
import java.nio.file.Files;
import java.nio.file.Path;
import java.util.ArrayList;
import java.util.Arrays;
import java.util.HashMap;
import java.util.HashSet;
import java.util.List;
import java.util.Map;
import java.util.Set;
import java.util.regex.Pattern;

/**
 * Edges of the document: words of it, and a run of calls on a new object, each with the answer that is due.
 *
 * The lines of a run:
 *   leave(0, 0, 100) BEYOND     a call and what is due: a number, a finding's name, or * for whatever isn't a finding
 *   write(0, 0, 7) number -1000000001   a number that only looks like a finding: the call isn't refused
 *   49 times minutes(200)       a call that often; no answer may be a finding
 *   told left 5; old at 0       a text that must have no fault
 *   fed left 5                  a text that stays on the tape
 *
 * A second object, the twin, gets the same calls but for those that are due a finding. Behind the run
 * both must be alike in all that can be asked: so each refused call of each run is seen to change
 * nothing but status().
 */
final class Edges {
    /** The promise of words that stand in the document's "Terms", or ahead of all promises. */
    static final int TERMS = 0;

    private static final int MOST_CALLS = 512;
    private static final long GREATEST_FINDING = -1000000001L;
    private static final String AS_IT_IS = "number ";
    private static final List<String> FINDINGS = List.of("BEYOND", "FULL", "KIND", "NONE", "STATE", "MISSING", "SIZE");
    /** How a promise begins: the act that it tells. */
    private static final Pattern ACT = Pattern.compile("\\n`(?:int|long) (\\w+)\\(");
    private static final Map<String, Method> FACE = new HashMap<>();

    static {
        for (Method m : EarRows.class.getDeclaredMethods()) {
            if (Modifier.isPublic(m.getModifiers())) {
                FACE.put(m.getName(), m);
            }
        }
    }

    private final Map<Integer, String> promises = new HashMap<>();
    private final Set<Integer> seen = new HashSet<>();
    private final Set<String> seenRefused = new HashSet<>();
    private int wrong = 0;
    private int edges = 0;

    private int promise;
    private String words;
    private EarRows x;
    private EarRows twin;
    private int calls;
    private final int[] refused = new int[FINDINGS.size()];

    Edges() {
        String path = System.getProperty("earrows.document", "../shared/DOC.md");
        try {
            splitByPromises(Files.readString(Path.of(path), StandardCharsets.UTF_8));
        } catch (IOException e) {
            System.out.println("the document isn't at " + path + ": the words of the edges are not looked up in it");
        }
    }

    private void splitByPromises(String document) {
        String[] parts = document.split("\n## Promise ");
        for (String part : parts) {
            int number = part == parts[0] ? TERMS : Integer.parseInt(part.substring(0, part.indexOf(':')));
            promises.put(number, part);
        }
    }

    void edge(int ofPromise, String itsWords, String... run) {
        promise = ofPromise;
        words = itsWords;
        edges++;
        seen.add(promise);
        if (!promises.isEmpty() && !promises.getOrDefault(promise, "").contains(words)) {
            fail("the document does not say so");
        }
        x = new EarRows();
        twin = new EarRows();
        calls = 0;
        Arrays.fill(refused, 0);
        for (String line : run) {
            follow(line);
        }
        compareFindings();
        if (Arrays.stream(refused).sum() > 0) {
            compareAll();
        }
        if (calls > MOST_CALLS) {
            fail("the run has " + calls + " calls, more than are promised");
        }
    }

    /** One run behind another. */
    static String[] with(String[] first, String... more) {
        String[] all = Arrays.copyOf(first, first.length + more.length);
        System.arraycopy(more, 0, all, first.length, more.length);
        return all;
    }

    /** Each of these promises must have had an edge, and its act each finding that the promise names. */
    void end(int first, int last) {
        words = "";
        for (promise = first; promise <= last; promise++) {
            if (!seen.contains(promise)) {
                fail("no edge of it was tried");
            }
            for (String act : ACT.matcher(promises.getOrDefault(promise, "")).results().map(m -> m.group(1)).toList()) {
                findingsWere(act, promises.get(promise));
            }
        }
        end();
    }

    private void findingsWere(String act, String told) {
        String all = told.contains("Refused as book()") ? promises.get(43) : told;
        for (String finding : FINDINGS) {
            if (all.contains(". " + finding) && !seenRefused.contains(act + " " + finding)) {
                fail(act + " was never refused with " + finding);
            }
        }
    }

    private void end() {
        System.out.println(edges + " edges, " + wrong + " answers not as due");
        if (wrong != 0) {
            System.exit(1);
        }
    }

    private void fail(String what) {
        wrong++;
        System.out.println((promise == TERMS ? "terms" : "promise " + promise) + ", \"" + words + "\": " + what);
    }

    private void follow(String line) {
        if (line.startsWith("told ")) {
            feed(line.substring(5));
            both("text()", "*");
        } else if (line.startsWith("fed ")) {
            feed(line.substring(4));
        } else if (line.matches("\\d+ times .*")) {
            int n = Integer.parseInt(line.substring(0, line.indexOf(' ')));
            for (int i = 0; i < n; i++) {
                both(line.substring(line.indexOf(" times ") + 7), "*");
            }
        } else {
            int end = line.indexOf(')') + 1;
            both(line.substring(0, end), line.substring(end).trim());
        }
    }

    private void feed(String text) {
        for (int i = 0; i < text.length(); i += 4) {
            int n = Math.min(4, text.length() - i);
            int bytes = 0;
            for (int k = 0; k < n; k++) {
                bytes = bytes << 8 | text.charAt(i + k) & 255;
            }
            both("feed(" + bytes + ", " + n + ")", "*");
        }
    }

    private void both(String call, String due) {
        calls++;
        long got = ask(x, call);
        long want = due.equals("*") ? got : valueOf(due);
        if (got != want || due.equals("*") && isFinding(got)) {
            fail(call + " answered " + got + ", due is " + due);
        }
        if (isFinding(want) && !due.startsWith(AS_IT_IS)) {
            int finding = (int) (GREATEST_FINDING - want);
            refused[finding]++;
            seenRefused.add(call.substring(0, call.indexOf('(')) + " " + FINDINGS.get(finding));
        } else {
            ask(twin, call);
        }
    }

    private static boolean isFinding(long answer) {
        return answer <= GREATEST_FINDING && answer > GREATEST_FINDING - FINDINGS.size();
    }

    private static long valueOf(String due) {
        int finding = FINDINGS.indexOf(due);
        if (finding >= 0) {
            return GREATEST_FINDING - finding;
        }
        return number(due.startsWith(AS_IT_IS) ? due.substring(AS_IT_IS.length()) : due);
    }

    private static long number(String told) {
        switch (told) {
            case "MIN": return Integer.MIN_VALUE;
            case "MAX": return Integer.MAX_VALUE;
            case "LONGMIN": return Long.MIN_VALUE;
            case "LONGMAX": return Long.MAX_VALUE;
            default: return Long.parseLong(told);
        }
    }

    static long ask(EarRows on, String call) {
        int open = call.indexOf('(');
        Method m = FACE.get(call.substring(0, open));
        String inside = call.substring(open + 1, call.length() - 1);
        List<Object> with = new ArrayList<>();
        for (String told : inside.isEmpty() ? new String[0] : inside.split(", *")) {
            if (m.getParameterTypes()[with.size()] == long.class) {
                with.add(number(told));
            } else {
                with.add(Math.toIntExact(number(told)));
            }
        }
        try {
            return ((Number) m.invoke(on, with.toArray())).longValue();
        } catch (ReflectiveOperationException e) {
            throw new IllegalStateException(call, e);
        }
    }

    private void compareFindings() {
        int all = 0;
        for (int i = 0; i < FINDINGS.size(); i++) {
            isDue("status(" + i + ")", refused[i]);
            all += refused[i];
        }
        isDue("status(-1)", all);
    }

    private void isDue(String call, long due) {
        calls++;
        long got = ask(x, call);
        if (got != due) {
            fail(call + " behind the run answered " + got + ", due is " + due);
        }
    }

    private void compareAll() {
        compareField();
        for (int what = 0; what < 4; what++) {
            compare("count(" + what + ")");
        }
        for (int s = 0; s < 4; s++) {
            int i = 0;
            while (i <= 40 && !isFinding(compare("write(" + s + ", " + i + ", 0)"))) {
                i++;
            }
        }
        compare("text()");
        for (int what = 0; what < 4; what++) {
            compare("now(" + what + ")");
        }
        if (!isFinding(compare("undo()"))) {
            compareField();
        }
    }

    private void compareField() {
        for (int row = 0; row < 8; row++) {
            for (int place = 0; place < 8; place++) {
                compare("ears(" + row + ", " + place + ")");
            }
        }
        for (int what = 0; what < 5; what++) {
            compare("now(" + what + ")");
        }
        long gleaners = compare("count(0)");
        for (int g = 0; g < gleaners; g++) {
            for (int what = 0; what < 8; what++) {
                compare("of(" + g + ", " + what + ")");
            }
        }
    }

    private long compare(String call) {
        calls++;
        long got = ask(x, call);
        long without = ask(twin, call);
        if (got != without) {
            fail(call + " behind the run answered " + got + ", without what was refused " + without);
        }
        return got;
    }
}
