import java.io.IOException;
import java.lang.reflect.Method;
import java.lang.reflect.Modifier;
import java.nio.file.Files;
import java.nio.file.Path;
import java.util.List;
import java.util.regex.Matcher;
import java.util.regex.Pattern;
import java.util.stream.Stream;

/** README.md tells people how to use the class: what it tells must be what the class answers. */
public final class ReadmeTest {
    private static final Pattern CALL = Pattern.compile("x\\.(\\w+)\\(([^)]*)\\);\\s+// (-?\\d+)(:.*)?");
    private static final Pattern FINDING = Pattern.compile("\\| (-\\d+) \\| ([A-Z]+) \\| (\\d) \\|");
    private static final Pattern TEXT = Pattern.compile("A text has ITEMS with `;` between them, as `([^`]*)`");

    public static void main(String[] args) throws IOException, ReflectiveOperationException {
        String page = Files.readString(Path.of("README.md"));
        calls(page.lines().filter(line -> line.startsWith("x.")).toList());
        findings(page);
        text(page);
        tests(page);
        Due.end();
    }

    private static void calls(List<String> lines) throws ReflectiveOperationException {
        CoinFountain x = new CoinFountain();
        Due.holds("there are calls", !lines.isEmpty());
        for (String line : lines) {
            Matcher call = CALL.matcher(line);
            boolean isTold = call.matches();
            Due.holds("a call and its answer: " + line, isTold);
            if (isTold) {
                Due.is(line, ask(x, call.group(1), call.group(2)), Long.parseLong(call.group(3)));
            }
        }
    }

    private static long ask(CoinFountain x, String name, String given) throws ReflectiveOperationException {
        String[] numbers = given.isEmpty() ? new String[0] : given.split(", ");
        for (Method m : CoinFountain.class.getDeclaredMethods()) {
            if (Modifier.isPublic(m.getModifiers()) && m.getName().equals(name) && m.getParameterCount() == numbers.length) {
                Object[] values = new Object[numbers.length];
                for (int i = 0; i < values.length; i++) {
                    values[i] = value(m.getParameterTypes()[i], numbers[i]);
                }
                return ((Number) m.invoke(x, values)).longValue();
            }
        }
        throw new NoSuchMethodException(name + " of " + numbers.length);
    }

    private static Object value(Class<?> type, String told) {
        if (type == boolean.class) {
            return Boolean.valueOf(told);
        }
        return type == long.class ? (Object) Long.decode(told) : (Object) Integer.decode(told);
    }

    private static void findings(String page) {
        String[] names = {"BEYOND", "FULL", "KIND", "NONE", "STATE", "MISSING", "SIZE"};
        int[] codes = {Due.BEYOND, Due.FULL, Due.KIND, Due.NONE, Due.STATE, Due.MISSING, Due.SIZE};
        Matcher row = FINDING.matcher(page);
        int rows = 0;
        while (row.find()) {
            int which = Integer.parseInt(row.group(3));
            Due.is("status of " + row.group(), which, rows);
            if (rows < names.length) {
                Due.is(row.group(), Long.parseLong(row.group(1)), codes[rows]);
                Due.holds(row.group() + " is " + names[rows], names[rows].equals(row.group(2)));
            }
            rows++;
        }
        Due.is("findings told", rows, names.length);
    }

    private static void text(String page) {
        Matcher told = TEXT.matcher(page);
        boolean isTold = told.find();
        Due.holds("a text is told", isTold);
        if (isTold) {
            Due.is(told.group(1), Due.square(new CoinFountain(), told.group(1)), told.group(1).split(";").length);
        }
    }

    private static void tests(String page) throws IOException {
        try (Stream<Path> files = Files.list(Path.of("src/test/java"))) {
            for (Path file : files.sorted().toList()) {
                String name = file.getFileName().toString().replace(".java", "");
                Due.holds(name + " is named", page.contains("`" + name + "`"));
            }
        }
    }
}
