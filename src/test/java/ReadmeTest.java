import java.lang.reflect.Method;
import java.nio.file.Files;
import java.nio.file.Path;
import java.util.Set;
import java.util.TreeSet;
import java.util.regex.Matcher;
import java.util.regex.Pattern;
import java.util.stream.Stream;

/** The calls that README.md shows answer what it says, every call is shown, and every test is named. */
public final class ReadmeTest {
    private static final Pattern CALL = Pattern.compile("x\\.(\\w+)\\(([^)]*)\\);\\s+// (true|false|-?\\d+)\\b.*");
    private static final Check check = new Check();

    public static void main(String[] args) throws Exception {
        String text = Files.readString(Path.of("README.md"));
        Set<String> shown = new TreeSet<>();
        NotYet x = new NotYet();
        for (String line : text.split("\n")) {
            if (line.startsWith("x.")) {
                shown.add(call(x, line));
            }
        }
        for (Method method : NotYet.class.getDeclaredMethods()) {
            check.so("README.md shows " + method.getName(), shown.contains(method.getName()));
        }
        testsAreNamed(text);
        check.close();
    }

    private static String call(NotYet x, String line) throws Exception {
        Matcher matcher = CALL.matcher(line);
        check.so("an answer stands behind " + line, matcher.matches());
        if (!matcher.matches()) {
            return "";
        }
        String told = matcher.group(2);
        String[] numbers = told.isEmpty() ? new String[0] : told.split(", ");
        Object[] values = new Object[numbers.length];
        Class<?>[] types = new Class<?>[numbers.length];
        for (int i = 0; i < numbers.length; i++) {
            values[i] = Integer.decode(numbers[i]);
            types[i] = int.class;
        }
        Object got = NotYet.class.getMethod(matcher.group(1), types).invoke(x, values);
        check.so(line + " - it answers " + got, matcher.group(3).equals(String.valueOf(got)));
        return matcher.group(1);
    }

    private static void testsAreNamed(String text) throws Exception {
        try (Stream<Path> files = Files.list(Path.of("src/test/java"))) {
            for (Path file : files.toList()) {
                String name = file.getFileName().toString().replace(".java", "");
                check.so("README.md names " + name, !name.endsWith("Test") || text.contains("`" + name + "`"));
            }
        }
    }
}
