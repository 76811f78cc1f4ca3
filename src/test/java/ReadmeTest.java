import java.io.IOException;
import java.lang.reflect.InvocationTargetException;
import java.lang.reflect.Method;
import java.nio.file.Files;
import java.nio.file.Path;
import java.util.regex.Matcher;
import java.util.regex.Pattern;

/** The calls that README.md shows, with the answers that it tells behind them. */
final class ReadmeTest {
    private static final Pattern NEW = Pattern.compile("CurveMeetings x = new CurveMeetings\\(\\);");
    private static final Pattern FEED = Pattern.compile("feed\\(x, \"(.*)\"\\);");
    private static final Pattern CALL = Pattern.compile("x\\.(\\w+)\\((.*)\\);\\s+// (-?\\d+|true|false|throws IndexOutOfBoundsException)\\b.*");
    private static final int LEAST_CALLS = 30;

    private ReadmeTest() {
    }

    static void run(Path readme) throws IOException, ReflectiveOperationException {
        CurveMeetings x = null;
        int calls = 0;
        for (String line : Files.readString(readme).split("\n")) {
            Matcher feed = FEED.matcher(line);
            Matcher call = CALL.matcher(line);
            if (NEW.matcher(line).matches()) {
                x = new CurveMeetings();
            } else if (feed.matches()) {
                Texts.feed(x, feed.group(1));
            } else if (call.matches()) {
                String got = answer(x, call.group(1), call.group(2));
                Checks.check("README.md: " + line + " answers as it says, not " + got, 1, got.equals(call.group(3)) ? 1 : 0);
                calls++;
            } else {
                Checks.check("README.md shows the answer in " + line, 0, line.startsWith("x.") ? 1 : 0);
            }
        }
        Checks.check("calls in README.md", 1, calls >= LEAST_CALLS ? 1 : 0);
    }

    private static String answer(CurveMeetings x, String name, String list) throws ReflectiveOperationException {
        String[] words = list.isEmpty() ? new String[0] : list.split(", ");
        Object[] arguments = new Object[words.length];
        for (int k = 0; k < words.length; k++) {
            boolean isName = words[k].startsWith("CurveMeetings.");
            arguments[k] = isName ? CurveMeetings.class.getField(words[k].substring(14)).getInt(null) : Integer.decode(words[k]);
        }
        for (Method method : CurveMeetings.class.getMethods()) {
            if (method.getName().equals(name) && method.getParameterCount() == arguments.length) {
                return answer(x, method, arguments);
            }
        }
        return "nothing: there is no such call";
    }

    private static String answer(CurveMeetings x, Method method, Object[] arguments) throws ReflectiveOperationException {
        try {
            return method.invoke(x, arguments).toString();
        } catch (InvocationTargetException e) {
            return "throws " + e.getCause().getClass().getSimpleName();
        }
    }
}
