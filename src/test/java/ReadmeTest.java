import java.io.IOException;
import java.lang.reflect.InvocationTargetException;
import java.lang.reflect.Method;
import java.lang.reflect.Modifier;
import java.nio.file.DirectoryStream;
import java.nio.file.Files;
import java.nio.file.Path;
import java.util.Collections;
import java.util.List;
import java.util.Set;
import java.util.TreeSet;
import java.util.regex.Matcher;
import java.util.regex.Pattern;

/** README.md: that it tells all members and all tests, and that its run of calls is true. */
public final class ReadmeTest {
    private static final Pattern ROW = Pattern.compile("\\| `(\\w+)\\(([-\\d, ]*)\\)` \\| (.*?) ?\\| (.*?) ?\\|");
    private static final Pattern WRITES = Pattern.compile("writes (-?\\d+)");

    private ReadmeTest() {
    }

    public static void main(String[] args) throws IOException, ReflectiveOperationException {
        List<String> lines = Files.readAllLines(Path.of("README.md"));
        members(String.join("\n", lines));
        tests(String.join("\n", lines));
        runOfCalls(lines);
        Check.end();
    }

    private static void members(String text) {
        for (Method m : RootDesk.class.getDeclaredMethods()) {
            if (Modifier.isPublic(m.getModifiers())) {
                String parameters = String.join(", ", Collections.nCopies(m.getParameterCount(), "int \\w+"));
                Pattern row = Pattern.compile("\\| `" + m.getReturnType() + " " + m.getName() + "\\(" + parameters
                    + "\\)` \\| \\S");
                Check.same("README tells " + m, row.matcher(text).find(), true);
            }
        }
    }

    private static void tests(String text) throws IOException {
        try (DirectoryStream<Path> all = Files.newDirectoryStream(Path.of("src/test/java"), "*Test.java")) {
            for (Path p : all) {
                String name = p.getFileName().toString().replace(".java", "");
                Check.same("README tells " + name, text.contains("`" + name + "`"), true);
            }
        }
    }

    private static void runOfCalls(List<String> lines) throws ReflectiveOperationException {
        RootDesk x = new RootDesk();
        Set<String> called = new TreeSet<>();
        for (String line : lines) {
            Matcher row = ROW.matcher(line);
            if (row.matches()) {
                called.add(row.group(1));
                String got = answer(x, row.group(1), row.group(2));
                Check.same(line, got, row.group(3));
                Matcher writes = WRITES.matcher(row.group(4));
                if (writes.find()) {
                    Check.same("what it writes", Check.text(x, Integer.parseInt(got)), writes.group(1));
                }
            }
        }
        Check.same("how many members the run calls: " + called, called.size(), 21);
    }

    private static String answer(RootDesk x, String name, String list) throws ReflectiveOperationException {
        String[] parts = list.isEmpty() ? new String[0] : list.split(", ");
        Class<?>[] types = new Class<?>[parts.length];
        Object[] values = new Object[parts.length];
        for (int i = 0; i < parts.length; i++) {
            types[i] = int.class;
            values[i] = Integer.valueOf(parts[i]);
        }
        try {
            Object got = RootDesk.class.getMethod(name, types).invoke(x, values);
            return got == null ? "" : got.toString();
        } catch (InvocationTargetException e) {
            return "throws " + e.getCause().getClass().getSimpleName();
        }
    }
}
