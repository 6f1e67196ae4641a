import java.io.IOException;
import java.lang.reflect.Constructor;
import java.lang.reflect.Field;
import java.lang.reflect.Member;
import java.lang.reflect.Method;
import java.lang.reflect.Modifier;
import java.nio.file.Files;
import java.nio.file.Path;
import java.util.Arrays;
import java.util.Set;
import java.util.TreeSet;
import java.util.regex.Pattern;

/** Rules of LANGUAGE.md that can be seen from outside: the face, and words that the program does without. */
public final class LanguageTest {
    private static final String[] FACE = {
        "add", "character", "coefficient", "compare", "copy", "degree", "divide", "fraction", "invert",
        "multiply", "negate", "print", "root", "roots", "rootsIn", "sign", "signAt", "size", "subtract",
        "take", "weight"};

    private LanguageTest() {
    }

    public static void main(String[] args) throws IOException {
        face();
        classesInside();
        words();
        Check.end();
    }

    private static void face() {
        Check.same("final", Modifier.isFinal(RootDesk.class.getModifiers()), true);
        Set<String> open = new TreeSet<>();
        for (Method m : RootDesk.class.getDeclaredMethods()) {
            if (Modifier.isPublic(m.getModifiers())) {
                open.add(m.getName());
            } else {
                hidden(m);
                Check.same(m + " has a name of the face", Arrays.asList(FACE).contains(m.getName()), false);
            }
        }
        Check.same("the public methods", open.toString(), Arrays.toString(FACE));
        for (Constructor<?> c : RootDesk.class.getDeclaredConstructors()) {
            Check.same("constructor", c.toString(), "public RootDesk()");
        }
        for (Field f : RootDesk.class.getDeclaredFields()) {
            if (!f.getName().equals("NONE")) {
                hidden(f);
            }
        }
    }

    private static void hidden(Member m) {
        Check.same(m + " is private", Modifier.isPrivate(m.getModifiers()), true);
    }

    private static void classesInside() {
        Class<?>[] inside = RootDesk.class.getDeclaredClasses();
        if (inside.length > 12) {
            Check.fail("classes: " + inside.length);
        }
        for (Class<?> c : inside) {
            Check.same(c + " is static", Modifier.isStatic(c.getModifiers()), true);
            int fields = 0;
            for (Field f : c.getDeclaredFields()) {
                boolean fixed = Modifier.isStatic(f.getModifiers());
                fields += fixed ? 0 : 1;
                Check.same(f + " is final", !fixed || Modifier.isFinal(f.getModifiers()), true);
            }
            if (fields > 20) {
                Check.fail(c + " has " + fields + " fields");
            }
            for (Method m : c.getDeclaredMethods()) {
                Check.same(m + " has a name of the face", Arrays.asList(FACE).contains(m.getName()), false);
                if (m.getParameterCount() > 7) {
                    Check.fail(m + " has too many parameters");
                }
            }
        }
    }

    private static void words() throws IOException {
        String code = Files.readString(Path.of("src/main/java/RootDesk.java"))
            .replaceAll("(?s)/\\*.*?\\*/", " ").replaceAll("//[^\n]*", " ");
        String[] banned = {"->", "::", "\\bimport\\b", "\\bpackage\\b", "\\bfinally\\b", "\\bassert\\b",
            "\\bsynchronized\\b", "\\btry\\b", "\\bdouble\\b", "\\bfloat\\b", "\\bvar\\b", "Exact\\(",
            "System\\.", "\\bThread\\b", "\\bBigInteger\\b", "\\bBigDecimal\\b", "\\bwhile \\(true\\)"};
        for (String word : banned) {
            Check.same(word + " in the program", Pattern.compile(word).matcher(code).find(), false);
        }
    }
}
