import java.io.IOException;
import java.lang.reflect.Method;
import java.lang.reflect.Modifier;
import java.nio.charset.StandardCharsets;
import java.nio.file.Files;
import java.nio.file.Path;
import java.util.Map;
import java.util.TreeMap;
import java.util.regex.Matcher;
import java.util.regex.Pattern;

/** README.md: its examples must answer what their comments say, and its table must have every call. */
public final class ReadmeTest {
    private static final Pattern BLOCK = Pattern.compile("(?s)```java\\n(.*?)```");
    private static final Pattern EXAMPLE = Pattern.compile("x\\.(\\w+\\([^)]*\\)); *// (-?\\d+)(?::.*)?");
    private static final Pattern FED = Pattern.compile("x\\.feed\\((\\d+), 4\\);.*\"(....)\"");
    private static final Pattern IN_TABLE = Pattern.compile("(?m)^\\| `(\\w+)\\(([^)]*)\\)` \\|");
    private static final String NEW = "EarRows x = new EarRows();";

    private static int wrong = 0;
    private static int asked = 0;

    public static void main(String[] args) throws IOException {
        String page = Files.readString(Path.of(System.getProperty("earrows.readme", "README.md")), StandardCharsets.UTF_8);
        Matcher block = BLOCK.matcher(page);
        while (block.find()) {
            follow(block.group(1).split("\n"));
        }
        if (asked == 0) {
            fail("no example was found");
        }
        table(page);
        System.out.println(asked + " examples, " + wrong + " not as the page says");
        if (wrong != 0) {
            System.exit(1);
        }
    }

    private static void fail(String what) {
        wrong++;
        System.out.println(what);
    }

    private static void follow(String[] lines) {
        EarRows x = new EarRows();
        for (String line : lines) {
            Matcher example = EXAMPLE.matcher(line);
            if (example.matches()) {
                asked++;
                long got = Edges.ask(x, example.group(1));
                if (got != Long.parseLong(example.group(2))) {
                    fail(line + " answered " + got);
                }
                fed(line);
            } else if (line.equals(NEW)) {
                x = new EarRows();
            } else {
                fail("no example: " + line);
            }
        }
    }

    /** The bytes must be those of the text that the comment tells. */
    private static void fed(String line) {
        Matcher told = FED.matcher(line);
        if (told.find()) {
            int bytes = 0;
            for (char c : told.group(2).toCharArray()) {
                bytes = bytes << 8 | c;
            }
            if (bytes != Integer.parseInt(told.group(1))) {
                fail(line + ": these bytes are " + bytes);
            }
        } else if (line.contains("x.feed(")) {
            fail("no four bytes are told: " + line);
        }
    }

    private static void table(String page) {
        Map<String, Integer> told = new TreeMap<>();
        Matcher row = IN_TABLE.matcher(page);
        while (row.find()) {
            told.put(row.group(1), row.group(2).isEmpty() ? 0 : row.group(2).split(",").length);
        }
        for (Method m : EarRows.class.getDeclaredMethods()) {
            if (Modifier.isPublic(m.getModifiers())) {
                Integer n = told.remove(m.getName());
                if (n == null || n != m.getParameterCount()) {
                    fail("the table does not have " + m);
                }
            }
        }
        for (String name : told.keySet()) {
            fail("the table has " + name + ", the class has not");
        }
    }
}
