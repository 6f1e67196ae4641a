import java.io.IOException;
import java.lang.reflect.Constructor;
import java.lang.reflect.Field;
import java.lang.reflect.Member;
import java.lang.reflect.Method;
import java.lang.reflect.Modifier;
import java.nio.file.Files;
import java.nio.file.Path;
import java.util.Arrays;
import java.util.Set;
import java.util.TreeSet;
import java.util.regex.Pattern;

/** Rules of LANGUAGE.md that can be seen from outside: the face, and words that the program does without. */
public final class LanguageTest {
    private static final String ILLEGAL = " throws IllegalArgumentException";
    private static final String BOTH = ILLEGAL + ", ArithmeticException";

    /** As the document has them, but without the names of the parameters. */
    private static final String[] MEMBERS = {
        "int coefficient(int, int)" + ILLEGAL, "int degree()", "int roots()", "int rootsIn(int, int)" + ILLEGAL,
        "int signAt(int)" + ILLEGAL, "boolean take(int, int)" + ILLEGAL, "void fraction(int, int, int)" + ILLEGAL,
        "void copy(int, int)" + ILLEGAL, "void negate(int, int)" + ILLEGAL, "void invert(int, int)" + BOTH,
        "boolean add(int, int, int)" + ILLEGAL, "boolean subtract(int, int, int)" + ILLEGAL,
        "boolean multiply(int, int, int)" + ILLEGAL, "boolean divide(int, int, int)" + BOTH,
        "boolean root(int, int, int)" + BOTH, "int compare(int, int)" + ILLEGAL, "int sign(int)" + ILLEGAL,
        "int print(int, int)" + ILLEGAL, "int character(int)", "int weight(int)" + ILLEGAL, "int size(int)" + ILLEGAL};

    private LanguageTest() {
    }

    public static void main(String[] args) throws IOException, ReflectiveOperationException {
        face();
        classesInside();
        words();
        Check.end();
    }

    private static void face() throws ReflectiveOperationException {
        Check.same("the class", Modifier.toString(RootDesk.class.getModifiers()), "public final");
        Set<String> open = new TreeSet<>();
        for (Method m : RootDesk.class.getDeclaredMethods()) {
            if (Modifier.isPublic(m.getModifiers())) {
                Check.same(m + " is of an object", Modifier.isStatic(m.getModifiers()), false);
                open.add(written(m));
            } else {
                hidden(m);
                notOfTheFace(m);
            }
        }
        Check.same("the public methods", open.toString(), new TreeSet<>(Arrays.asList(MEMBERS)).toString());
        for (Constructor<?> c : RootDesk.class.getDeclaredConstructors()) {
            Check.same("constructor", c.toString(), "public RootDesk()");
        }
        for (Field f : RootDesk.class.getDeclaredFields()) {
            if (!f.getName().equals("NONE")) {
                hidden(f);
            }
        }
        Check.same("NONE", RootDesk.class.getField("NONE").toString(), "public static final int RootDesk.NONE");
        Check.same("NONE", RootDesk.NONE, -1);
    }

    private static String written(Method m) {
        return m.toString().replace("public ", "").replace("RootDesk.", "").replace("java.lang.", "").replace(",", ", ");
    }

    private static void notOfTheFace(Method m) {
        for (String member : MEMBERS) {
            Check.same(m + " has a name of the face", member.contains(" " + m.getName() + "("), false);
        }
    }

    private static void hidden(Member m) {
        Check.same(m + " is private", Modifier.isPrivate(m.getModifiers()), true);
    }

    private static void classesInside() {
        Class<?>[] inside = RootDesk.class.getDeclaredClasses();
        if (inside.length > 12) {
            Check.fail("classes: " + inside.length);
        }
        for (Class<?> c : inside) {
            Check.same(c + " is static", Modifier.isStatic(c.getModifiers()), true);
            int fields = 0;
            for (Field f : c.getDeclaredFields()) {
                boolean fixed = Modifier.isStatic(f.getModifiers());
                fields += fixed ? 0 : 1;
                Check.same(f + " is final", !fixed || Modifier.isFinal(f.getModifiers()), true);
            }
            if (fields > 20) {
                Check.fail(c + " has " + fields + " fields");
            }
            for (Method m : c.getDeclaredMethods()) {
                notOfTheFace(m);
                if (m.getParameterCount() > 7) {
                    Check.fail(m + " has too many parameters");
                }
            }
        }
    }

    private static void words() throws IOException {
        String code = Files.readString(Path.of("src/main/java/RootDesk.java"))
            .replaceAll("(?s)/\\*.*?\\*/", " ").replaceAll("//[^\n]*", " ");
        String[] banned = {"->", "::", "\\bimport\\b", "\\bpackage\\b", "\\bfinally\\b", "\\bassert\\b",
            "\\bsynchronized\\b", "\\btry\\b", "\\bdouble\\b", "\\bfloat\\b", "\\bvar\\b", "Exact\\(",
            "System\\.", "\\bThread\\b", "\\bBigInteger\\b", "\\bBigDecimal\\b", "\\bwhile \\(true\\)"};
        for (String word : banned) {
            Check.same(word + " in the program", Pattern.compile(word).matcher(code).find(), false);
        }
    }
}
