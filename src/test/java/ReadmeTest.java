import java.io.IOException;
import java.lang.reflect.Method;
import java.lang.reflect.Modifier;
import java.nio.charset.StandardCharsets;
import java.nio.file.Files;
import java.nio.file.Path;
import java.util.Arrays;
import java.util.TreeSet;
import java.util.regex.Matcher;
import java.util.regex.Pattern;

/** Does the lines of README.md's examples on one safe, in their order; it runs from the project's folder. */
public final class ReadmeTest {
    private static final Pattern TEXT = Pattern.compile("turn\\(safe, \"(.*)\"\\); +// (-?\\d+).*");
    private static final Pattern CALL = Pattern.compile("safe\\.(\\w+)\\((.*)\\); +// (-?\\w+).*");

    public static void main(String[] args) throws IOException, ReflectiveOperationException {
        DialSafes safe = new DialSafes();
        TreeSet<String> shown = new TreeSet<>();
        for (String line : Files.readAllLines(Path.of("README.md"), StandardCharsets.UTF_8)) {
            Matcher text = TEXT.matcher(line);
            Matcher call = CALL.matcher(line);
            if (text.matches()) {
                shown.add("turn");
                shown.add("feed");
                Checks.same(line, "" + Checks.turn(safe, text.group(1)), text.group(2));
            } else if (call.matches()) {
                shown.add(call.group(1));
                Checks.same(line, answerOf(safe, call.group(1), call.group(2)), call.group(3));
            } else {
                Checks.no("no answer stands behind: " + line, line.matches("(safe\\.|turn\\(safe, \").*"));
            }
        }
        for (Method each : DialSafes.class.getDeclaredMethods()) {
            boolean face = Modifier.isPublic(each.getModifiers());
            Checks.yes("README.md shows " + each.getName(), !face || shown.contains(each.getName()));
        }
        Checks.end();
    }

    private static String answerOf(DialSafes safe, String name, String given) throws ReflectiveOperationException {
        String[] parts = given.isEmpty() ? new String[0] : given.split(", ");
        for (Method each : DialSafes.class.getMethods()) {
            if (each.getName().equals(name) && each.getParameterCount() == parts.length) {
                return "" + each.invoke(safe, Arrays.stream(parts).map(ReadmeTest::valueOf).toArray());
            }
        }
        return "no such call";
    }

    private static Object valueOf(String part) {
        return part.equals("true") || part.equals("false") ? (Object) Boolean.valueOf(part) : Integer.valueOf(part);
    }
}
