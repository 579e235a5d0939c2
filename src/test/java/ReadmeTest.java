import java.io.IOException;
import java.lang.reflect.Method;
import java.nio.file.Files;
import java.nio.file.Path;
import java.util.Set;
import java.util.TreeSet;
import java.util.regex.Matcher;
import java.util.regex.Pattern;

/** README.md, "Use": each call there answers what stands behind it, and no call of the face is left out. */
public final class ReadmeTest {
    private static final Due due = new Due("ReadmeTest");
    private static final Pattern CALL = Pattern.compile("x\\.(\\w+)\\((.*)\\);\\s*// (-?\\d+)(:.*)?");
    private static final Pattern FEED = Pattern.compile("for \\(char c : \"(.*)\"\\.toCharArray\\(\\)\\) x\\.feed\\(c\\);");
    private static final String MAKING = "PaidInKind x = new PaidInKind();";

    public static void main(String[] args) throws IOException, ReflectiveOperationException {
        PaidInKind x = null;
        Set<String> shown = new TreeSet<>();
        boolean code = false;
        for (String line : Files.readAllLines(Path.of("README.md"))) {
            if (line.startsWith("```")) code = line.equals("```java");
            else if (code && line.equals(MAKING)) x = new PaidInKind();
            else if (code) shown.add(answered(x, line));
        }
        for (Method m : PaidInKind.class.getMethods()) {
            if (m.getDeclaringClass() != PaidInKind.class) continue;
            due.is(m.getName() + " is shown", shown.contains(m.getName()) ? 1 : 0, 1);
        }
        due.end();
    }

    /** The name of what a line calls. */
    private static String answered(PaidInKind x, String line) throws ReflectiveOperationException {
        Matcher feed = FEED.matcher(line);
        if (feed.matches()) {
            Due.feed(x, feed.group(1));
            return "feed";
        }
        Matcher call = CALL.matcher(line);
        boolean can = call.matches();
        due.is("a call with its answer: " + line, can ? 1 : 0, 1);
        if (!can) return line;
        due.is(line, call(x, call.group(1), call.group(2)), Long.parseLong(call.group(3)));
        return call.group(1);
    }

    private static long call(PaidInKind x, String name, String arguments) throws ReflectiveOperationException {
        String[] given = arguments.isEmpty() ? new String[0] : arguments.split(", ");
        Class<?>[] types = new Class<?>[given.length];
        Object[] numbers = new Object[given.length];
        for (int i = 0; i < given.length; i++) {
            types[i] = int.class;
            numbers[i] = given[i].startsWith("0b") ? Integer.parseInt(given[i].substring(2), 2) : Integer.parseInt(given[i]);
        }
        return ((Number) PaidInKind.class.getMethod(name, types).invoke(x, numbers)).longValue();
    }
}
