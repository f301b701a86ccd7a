import java.io.IOException;
import java.lang.reflect.Method;
import java.lang.reflect.Modifier;
import java.nio.file.Files;
import java.nio.file.Path;
import java.util.Arrays;
import java.util.List;
import java.util.regex.Matcher;
import java.util.regex.Pattern;
import java.util.stream.Collectors;
import java.util.stream.Stream;

/** README.md: its example answers what stands there, and it names every call and every test. */
public final class ReadmeTest {
    private static final Pattern CALL = Pattern.compile("mill\\.(\\w+)\\(([^)]*)\\);\\s*// (-?\\d+)\\b");

    public static void main(String[] args) throws IOException, ReflectiveOperationException {
        String page = Files.readString(Path.of("README.md"));
        example(page);
        calls(page);
        tests(page);
        Check.finish();
    }

    private static void example(String page) throws ReflectiveOperationException {
        MillFarmers mill = new MillFarmers();
        Matcher line = CALL.matcher(page);
        int lines = 0;
        while (line.find()) {
            lines++;
            Object got = answer(mill, line.group(1), numbers(line.group(2)));
            Check.due("README.md: " + line.group(1) + "(" + line.group(2) + ")",
                    ((Number) got).longValue(), Long.parseLong(line.group(3)));
        }
        Check.due("calls in the example that tell their answer", lines, page.split("\nmill\\.", -1).length - 1);
        Check.that("there is an example", lines > 0);
    }

    private static Object[] numbers(String list) {
        return Stream.of(list.split(",")).map(String::trim).filter(one -> !one.isEmpty())
                .map(Integer::valueOf).toArray();
    }

    private static Object answer(MillFarmers mill, String name, Object[] numbers)
            throws ReflectiveOperationException {
        Class<?>[] types = new Class<?>[numbers.length];
        Arrays.fill(types, int.class);
        return MillFarmers.class.getMethod(name, types).invoke(mill, numbers);
    }

    private static void calls(String page) {
        for (Method m : MillFarmers.class.getDeclaredMethods()) {
            if (Modifier.isPublic(m.getModifiers())) {
                Matcher row = Pattern.compile("\\| `" + m.getName() + "\\(([^)]*)\\)` \\|").matcher(page);
                boolean named = row.find();
                Check.that("README.md has a row for " + m.getName(), named);
                int told = named && !row.group(1).isEmpty() ? row.group(1).split(",").length : 0;
                Check.due("numbers that README.md gives to " + m.getName(), told, m.getParameterCount());
            }
        }
    }

    private static void tests(String page) throws IOException {
        List<String> names;
        try (Stream<Path> files = Files.list(Path.of("src/test/java"))) {
            names = files.map(file -> file.getFileName().toString().replace(".java", ""))
                    .filter(name -> name.endsWith("Test")).collect(Collectors.toList());
        }
        for (String name : names) {
            Check.that("README.md names " + name, page.contains("`" + name + "`"));
        }
        Matcher named = Pattern.compile("`(\\w+Test)`").matcher(page);
        while (named.find()) {
            Check.that(named.group(1) + ", which README.md names, is there", names.contains(named.group(1)));
        }
    }
}
