import java.io.IOException;
import java.lang.reflect.Method;
import java.lang.reflect.Modifier;
import java.nio.file.Files;
import java.nio.file.Path;
import java.util.regex.Matcher;
import java.util.regex.Pattern;

/** README.md: its example answers what it says, it names every call and every test. */
public final class ReadmeTest {
    private static final Pattern CALL = Pattern.compile("^x\\.(\\w+)\\(([^)]*)\\); +// (-?\\d+)\\b");

    private static final Due due = new Due("ReadmeTest");

    public static void main(String[] args) throws IOException, ReflectiveOperationException {
        String readme = Files.readString(Path.of("README.md"));
        example(readme);
        callsNamed(readme);
        testsNamed(readme);
        due.end();
    }

    private static void example(String readme) throws ReflectiveOperationException {
        Matcher text = Pattern.compile("String text = \"(\\w+)\"").matcher(readme);
        due.is("a text in the example", text.find() ? 1 : 0, 1);
        CenturyBeds x = new CenturyBeds();
        Due.write(x, text.group(1));
        int made = 0;
        int told = 0;
        for (String line : readme.split("\n")) {
            told += line.startsWith("x.") ? 1 : 0;
            Matcher call = CALL.matcher(line);
            if (call.find()) {
                made++;
                due.is(line, answer(x, call.group(1), call.group(2)), Long.parseLong(call.group(3)));
            }
        }
        due.is("lines of the example that were made as calls", made, told);
        due.is("more than none", made > 0 ? 1 : 0, 1);
    }

    private static long answer(CenturyBeds x, String name, String told) throws ReflectiveOperationException {
        for (Method m : CenturyBeds.class.getMethods()) {
            if (m.getName().equals(name) && m.getDeclaringClass() == CenturyBeds.class) {
                return ((Number) m.invoke(x, values(m.getParameterTypes(), told))).longValue();
            }
        }
        throw new IllegalStateException("README.md calls what there is not: " + name);
    }

    private static Object[] values(Class<?>[] types, String told) {
        Object[] values = new Object[types.length];
        String[] words = told.split(", ");
        for (int i = 0; i < types.length; i++) {
            if (types[i] == boolean.class) {
                values[i] = Boolean.valueOf(words[i]);
            } else if (types[i] == long.class) {
                values[i] = Long.valueOf(words[i]);
            } else {
                values[i] = Integer.valueOf(words[i]);
            }
        }
        return values;
    }

    private static void callsNamed(String readme) {
        for (Method m : CenturyBeds.class.getDeclaredMethods()) {
            if (Modifier.isPublic(m.getModifiers())) {
                due.is("named: " + m.getName(), readme.contains("`" + m.getName() + "`") ? 1 : 0, 1);
            }
        }
    }

    private static void testsNamed(String readme) throws IOException {
        try (var files = Files.newDirectoryStream(Path.of("src/test/java"), "*Test.java")) {
            for (Path file : files) {
                String name = file.getFileName().toString().replace(".java", "");
                due.is("named: " + name, readme.contains("| " + name + " |") ? 1 : 0, 1);
            }
        }
    }
}
