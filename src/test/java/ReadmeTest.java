import java.lang.reflect.Method;
import java.nio.file.Files;
import java.nio.file.Path;
import java.util.regex.Matcher;
import java.util.regex.Pattern;

/** The calls that README.md shows, in their order, each with the answer that stands behind it. */
public final class ReadmeTest extends Checks {
    private static final Pattern CALL = Pattern.compile("x\\.(\\w+)\\((.*)\\); +// (-?\\d+(?:\\.\\d+)?)(?::.*)?");

    public static void main(String[] args) throws Exception {
        about("README.md");
        BoltTailors x = new BoltTailors();
        boolean shown = false;
        int calls = 0;
        for (String line : Files.readAllLines(Path.of("README.md"))) {
            if (line.startsWith("```")) {
                shown = line.equals("```java");
            } else if (shown && line.startsWith("x.")) {
                answerOf(x, line);
                calls++;
            }
        }
        if (calls == 0) {
            fail("no call is shown");
        }
        end("README.md");
    }

    private static void answerOf(BoltTailors x, String line) throws Exception {
        Matcher call = CALL.matcher(line);
        if (!call.matches()) {
            fail("no answer stands behind " + line);
            return;
        }
        Method method = methodOf(call.group(1));
        String[] told = call.group(2).isEmpty() ? new String[0] : call.group(2).split(", ");
        Object[] values = new Object[told.length];
        for (int i = 0; i < told.length; i++) {
            values[i] = valueOf(told[i]);
        }
        due(line, ((Number) method.invoke(x, values)).doubleValue(), Double.parseDouble(call.group(3)));
    }

    private static Method methodOf(String name) {
        for (Method method : BoltTailors.class.getMethods()) {
            if (method.getName().equals(name)) {
                return method;
            }
        }
        throw new IllegalStateException("no call " + name);
    }

    private static Object valueOf(String told) throws Exception {
        if (told.equals("true") || told.equals("false")) {
            return told.equals("true");
        }
        if (told.startsWith("BoltTailors.")) {
            return BoltTailors.class.getField(told.substring("BoltTailors.".length())).getInt(null);
        }
        return told.startsWith("'") ? (int) told.charAt(1) : Integer.parseInt(told);
    }
}
