import java.lang.reflect.Constructor;
import java.lang.reflect.Field;
import java.lang.reflect.Method;
import java.lang.reflect.Modifier;
import java.nio.charset.StandardCharsets;
import java.nio.file.Files;
import java.nio.file.Path;
import java.util.Arrays;
import java.util.Set;
import java.util.TreeSet;
import java.util.regex.Matcher;
import java.util.regex.Pattern;

/** The public face of the document, and those rules of LANGUAGE.md that a text can be held against. */
public final class FaceTest {
    private static final String[] FACE = {
        "int leave(int,int,int)", "int ears(int,int)", "int left(int)", "int rake(int)", "int let(int,int)",
        "int gleaner(int,int,int)", "int of(int,int)", "int set(int,int,int)", "int turn(int,int)", "int as(int,int)",
        "int takes(int,int)", "int lay(int)", "int minutes(int)", "int rain()", "int day()", "int now(int)",
        "int on(int,int)", "int where(int,int)", "int done(int)", "int after()", "int most()", "int meet(int,int)",
        "int begin(int)", "int best(int)", "int alone(int)", "int rival(int)", "int may(int)", "int leaveFor(int)",
        "int ring(int,int,int)", "int shared(int)", "int over(int)", "int rich()", "int straw(int)",
        "long heap(int,int,int,int)", "int feed(int,int)", "int wipe()", "int text()", "int sheet(int,int,int)",
        "long write(int,int,long)", "int copy(int,int,int,int,int)", "int lays(int,int)", "int book(int,int)",
        "int read(int,int)", "int image()", "int undo()", "int tear()", "int count(int)", "int status(int)"};

    private static final String[] FORBIDDEN = {"\\bthrow\\b", "\\btry\\b", "\\bcatch\\b", "\\bsynchronized\\b", "\\bassert\\b",
        "->", "::", "\\bpackage\\b", "\\bprotected\\b", "Exact\\b", "\\bSystem\\.(?!arraycopy\\b)", "\\bvar\\b", "\\bObject\\b",
        "\\bMath\\.(?!min\\b|max\\b)", "\\bArrays\\.(?!fill\\b)", "\\bstatic \\{"};

    private static int wrong = 0;

    public static void main(String[] args) throws Exception {
        face();
        nested();
        String code = withoutCommentsAndTexts(source());
        forbidden(code);
        lines(code);
        if (wrong != 0) {
            System.exit(1);
        }
        System.out.println("the face and the language are as due");
    }

    private static void fail(String what) {
        wrong++;
        System.out.println(what);
    }

    private static void face() {
        Class<?> c = EarRows.class;
        if (!Modifier.isPublic(c.getModifiers()) || !Modifier.isFinal(c.getModifiers())) {
            fail("EarRows isn't public and final");
        }
        Set<String> due = new TreeSet<>(Arrays.asList(FACE));
        Set<String> names = new TreeSet<>();
        for (Method m : c.getDeclaredMethods()) {
            if (Modifier.isPublic(m.getModifiers())) {
                String told = m.getReturnType() + " " + m.getName()
                    + Arrays.toString(m.getParameterTypes()).replace("[", "(").replace("]", ")").replace(", ", ",");
                if (!due.remove(told)) {
                    fail("not in the document: " + told);
                }
                names.add(m.getName());
            } else if (!Modifier.isPrivate(m.getModifiers())) {
                fail("neither public nor private: " + m);
            }
        }
        for (String missing : due) {
            fail("missing: " + missing);
        }
        for (Method m : c.getDeclaredMethods()) {
            if (Modifier.isPrivate(m.getModifiers()) && names.contains(m.getName())) {
                fail("a private method bears the name of a public one: " + m);
            }
        }
        Constructor<?>[] made = c.getDeclaredConstructors();
        if (made.length != 1 || made[0].getParameterCount() != 0 || !Modifier.isPublic(made[0].getModifiers())) {
            fail("not the one constructor");
        }
        for (Field f : c.getDeclaredFields()) {
            if (!Modifier.isPrivate(f.getModifiers())) {
                fail("not private: " + f);
            }
        }
    }

    private static void nested() {
        Class<?>[] inside = EarRows.class.getDeclaredClasses();
        if (inside.length > 11) {
            fail("too many classes");
        }
        for (Class<?> c : inside) {
            if (!Modifier.isStatic(c.getModifiers()) || Modifier.isPublic(c.getModifiers())) {
                fail("not static, or public: " + c);
            }
            if (c.getDeclaredFields().length > 20) {
                fail("too many fields: " + c);
            }
            for (Method m : c.getDeclaredMethods()) {
                if (Modifier.isPublic(m.getModifiers())) {
                    fail("public inside: " + m);
                }
            }
        }
        int own = 0;
        for (Field f : EarRows.class.getDeclaredFields()) {
            own += Modifier.isStatic(f.getModifiers()) ? 0 : 1;
            if (Modifier.isStatic(f.getModifiers()) && !Modifier.isFinal(f.getModifiers())) {
                fail("static, not final: " + f);
            }
        }
        if (own > 20) {
            fail("too many fields of EarRows");
        }
    }

    private static String source() throws Exception {
        String path = System.getProperty("earrows.source", "src/main/java/EarRows.java");
        return Files.readString(Path.of(path), StandardCharsets.UTF_8);
    }

    private static String withoutCommentsAndTexts(String code) {
        return code.replaceAll("(?s)/\\*.*?\\*/", "").replaceAll("//[^\n]*", "").replaceAll("\"[^\"\n]*\"", "\"\"");
    }

    private static void forbidden(String code) {
        for (String f : FORBIDDEN) {
            Matcher m = Pattern.compile(f).matcher(code);
            if (m.find()) {
                fail("outside LANGUAGE.md: " + code.substring(m.start(), Math.min(code.length(), m.start() + 40)));
            }
        }
        Matcher imports = Pattern.compile("import ([^;]*);").matcher(code);
        while (imports.find()) {
            if (!Set.of("java.util.Arrays", "java.util.ArrayList", "java.util.List").contains(imports.group(1))) {
                fail("outside LANGUAGE.md: " + imports.group());
            }
        }
    }

    /** A method begins with a line that ends in ") {" at the depth of a member, and ends with its brace. */
    private static void lines(String code) {
        String[] all = code.split("\n");
        for (int i = 0; i < all.length; i++) {
            Matcher m = Pattern.compile("( {4}| {8})(?:[a-zA-Z\\[\\]]+ )+[a-zA-Z]+\\((.*)\\) \\{").matcher(all[i]);
            if (m.matches()) {
                int end = i;
                while (end < all.length && !all[end].equals(m.group(1) + "}")) {
                    end++;
                }
                if (end - i > 60) {
                    fail("long: " + all[i]);
                }
                if (m.group(2).split(",").length > 7) {
                    fail("too many parameters: " + all[i]);
                }
            }
        }
    }
}
