import java.io.IOException;
import java.lang.reflect.Field;
import java.lang.reflect.Method;
import java.lang.reflect.Modifier;
import java.nio.file.DirectoryStream;
import java.nio.file.Files;
import java.nio.file.Path;
import java.util.HashMap;
import java.util.List;
import java.util.Map;
import java.util.Set;
import java.util.TreeSet;
import java.util.regex.Matcher;
import java.util.regex.Pattern;

/** README.md: its examples answer as it says, and it tells every call, every error and every test. */
public final class ReadmeTest {
    private static final Path README = Path.of("README.md");
    private static final Path TESTS = Path.of("src/test/java");
    private static final Pattern NEW_HOUSE = Pattern.compile("EnergyDiscs (\\w+) = new EnergyDiscs\\(\\);");
    private static final Pattern CALL = Pattern.compile("(\\w+)\\.(\\w+)\\((.*)\\);\\s*// (-?\\d+)(:.*)?");
    private static final Pattern PACKED = Pattern.compile("packed\\(\"(.*)\"\\)");
    private static final Pattern CONSTANT = Pattern.compile("EnergyDiscs\\.(\\w+)");
    private static final Pattern TABLE_OF_CALLS = Pattern.compile("(?s)\\| calls \\|(.*?)\n\n");
    private static final Pattern NAME = Pattern.compile("`(\\w+)`");
    private static final Pattern ROW_OF_A_TEST = Pattern.compile("(?m)^\\| `(\\w+Test)` \\|");
    private static final Pattern ROW_OF_AN_ERROR = Pattern.compile("(?m)^\\| `(\\w+)` \\((-\\d)\\) \\|");
    private static final int FEWEST_CALLS = 30;

    private static long constant(String name) throws ReflectiveOperationException {
        return EnergyDiscs.class.getField(name).getInt(null);
    }

    private static long argument(String told) throws ReflectiveOperationException {
        Matcher packed = PACKED.matcher(told);
        if (packed.matches()) {
            return Check.packed(packed.group(1));
        }
        Matcher constant = CONSTANT.matcher(told);
        return constant.matches() ? constant(constant.group(1)) : Long.parseLong(told);
    }

    private static Method method(String name) {
        for (Method method : EnergyDiscs.class.getMethods()) {
            if (method.getName().equals(name)) {
                return method;
            }
        }
        throw new IllegalStateException("README.md calls " + name + "(), which there is not");
    }

    private static long answer(EnergyDiscs x, String name, String told) throws ReflectiveOperationException {
        Method method = method(name);
        String[] parts = told.isEmpty() ? new String[0] : told.split(", ");
        Object[] arguments = new Object[parts.length];
        for (int i = 0; i < parts.length; i++) {
            long value = argument(parts[i]);
            if (method.getParameterTypes()[i] == long.class) {
                arguments[i] = value;
            } else {
                arguments[i] = (int) value;
            }
        }
        return ((Number) method.invoke(x, arguments)).longValue();
    }

    private static void examples(List<String> lines) throws ReflectiveOperationException {
        Map<String, EnergyDiscs> houses = new HashMap<>();
        int calls = 0;
        for (String line : lines) {
            Matcher made = NEW_HOUSE.matcher(line);
            if (made.matches()) {
                houses.put(made.group(1), new EnergyDiscs());
                continue;
            }
            Matcher call = CALL.matcher(line);
            if (call.matches()) {
                calls++;
                EnergyDiscs x = houses.get(call.group(1));
                Check.due("README.md: " + line, answer(x, call.group(2), call.group(3)), Long.parseLong(call.group(4)));
            }
            boolean read = call.matches() || houses.keySet().stream().noneMatch(name -> line.startsWith(name + "."));
            Check.holds("this test reads the line of README.md: " + line, read);
        }
        Check.holds("README.md has examples", calls >= FEWEST_CALLS);
    }

    private static void callsAreTold(String text) {
        Set<String> told = new TreeSet<>();
        Matcher table = TABLE_OF_CALLS.matcher(text);
        Matcher names = NAME.matcher(table.find() ? table.group(1) : "");
        while (names.find()) {
            told.add(names.group(1));
        }
        Set<String> there = new TreeSet<>();
        for (Method method : EnergyDiscs.class.getDeclaredMethods()) {
            if (Modifier.isPublic(method.getModifiers())) {
                there.add(method.getName());
            }
        }
        Check.same("the calls in README.md", told.toString(), there.toString());
    }

    private static void errorsAreTold(String text) throws IllegalAccessException {
        Set<String> told = new TreeSet<>();
        Matcher rows = ROW_OF_AN_ERROR.matcher(text);
        while (rows.find()) {
            told.add(rows.group(1) + " " + rows.group(2));
        }
        Set<String> there = new TreeSet<>();
        for (Field field : EnergyDiscs.class.getFields()) {
            if (field.getInt(null) < 0) {
                there.add(field.getName() + " " + field.getInt(null));
            }
        }
        Check.same("the errors in README.md", told.toString(), there.toString());
    }

    private static void testsAreTold(String text) throws IOException {
        Set<String> told = new TreeSet<>();
        Matcher rows = ROW_OF_A_TEST.matcher(text);
        while (rows.find()) {
            told.add(rows.group(1));
        }
        Set<String> there = new TreeSet<>();
        try (DirectoryStream<Path> files = Files.newDirectoryStream(TESTS, "*Test.java")) {
            for (Path file : files) {
                there.add(file.getFileName().toString().replace(".java", ""));
            }
        }
        Check.same("the tests in README.md", told.toString(), there.toString());
    }

    public static void main(String[] args) throws IOException, ReflectiveOperationException {
        String text = Files.readString(README);
        examples(Files.readAllLines(README));
        callsAreTold(text);
        errorsAreTold(text);
        testsAreTold(text);
        Check.end();
    }
}
