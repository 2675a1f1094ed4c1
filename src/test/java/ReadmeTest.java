import java.io.IOException;
import java.lang.reflect.InvocationTargetException;
import java.lang.reflect.Method;
import java.nio.file.DirectoryStream;
import java.nio.file.Files;
import java.nio.file.Path;
import java.util.ArrayList;
import java.util.List;
import java.util.Set;
import java.util.TreeSet;
import java.util.regex.Matcher;
import java.util.regex.Pattern;

/** What README.md says: its calls answer what stands behind them, and it names all calls and tests. */
public final class ReadmeTest {
    private static final String NEW_OBJECT = "SupplyGrid grid = new SupplyGrid();";
    private static final Pattern CALL =
        Pattern.compile("grid\\.(\\w+)\\(([^)]*)\\); +// (throws \\w+|[^:\\s]+)(: .+)?");
    private static final Pattern TEST_ROW = Pattern.compile("\\| `(\\w+Test)` \\|.*");

    public static void main(String[] args) throws IOException, IllegalAccessException {
        List<String> readme = Files.readAllLines(Path.of("README.md"));
        Checks.same("the calls of the face", face().toString(), callsMade(readme).toString());
        Checks.same("the tests", testFiles().toString(), testsNamed(readme).toString());
        Checks.end();
    }

    /** Makes every call of the java blocks, and answers their names. */
    private static Set<String> callsMade(List<String> readme) throws IllegalAccessException {
        Set<String> made = new TreeSet<>();
        SupplyGrid grid = new SupplyGrid();
        boolean inside = false;
        for (String line : readme) {
            if (line.startsWith("```")) {
                inside = line.equals("```java");
            } else if (inside && line.equals(NEW_OBJECT)) {
                grid = new SupplyGrid();
            } else if (inside) {
                Matcher call = CALL.matcher(line);
                Checks.due("the form of: " + line, true, call.matches());
                if (call.matches()) {
                    Checks.same(line, call.group(3), answer(grid, call.group(1), call.group(2)));
                    made.add(call.group(1));
                }
            }
        }
        return made;
    }

    private static String answer(SupplyGrid grid, String name, String arguments) throws IllegalAccessException {
        for (Method method : SupplyGrid.class.getDeclaredMethods()) {
            if (method.getName().equals(name)) {
                try {
                    Object got = method.invoke(grid, parsed(arguments));
                    return got == null ? "nothing" : got.equals(SupplyGrid.NONE) ? "NONE" : got.toString();
                } catch (InvocationTargetException e) {
                    return "throws " + e.getCause().getClass().getSimpleName();
                }
            }
        }
        return "there is no such call";
    }

    private static Object[] parsed(String arguments) {
        List<Object> values = new ArrayList<>();
        for (String one : arguments.isEmpty() ? new String[0] : arguments.split(", ")) {
            if (one.equals("true") || one.equals("false")) {
                values.add(Boolean.valueOf(one));
            } else {
                values.add(Integer.valueOf(one));
            }
        }
        return values.toArray();
    }

    private static Set<String> face() {
        Set<String> names = new TreeSet<>();
        for (Method method : SupplyGrid.class.getMethods()) {
            if (method.getDeclaringClass() == SupplyGrid.class) {
                names.add(method.getName());
            }
        }
        return names;
    }

    private static Set<String> testFiles() throws IOException {
        Set<String> names = new TreeSet<>();
        try (DirectoryStream<Path> files = Files.newDirectoryStream(Path.of("src/test/java"), "*Test.java")) {
            for (Path file : files) {
                names.add(file.getFileName().toString().replace(".java", ""));
            }
        }
        return names;
    }

    private static Set<String> testsNamed(List<String> readme) {
        Set<String> names = new TreeSet<>();
        for (String line : readme) {
            Matcher row = TEST_ROW.matcher(line);
            if (row.matches()) {
                names.add(row.group(1));
            }
        }
        return names;
    }
}
