import java.io.IOException;
import java.nio.file.Files;
import java.nio.file.Path;
import java.util.List;
import java.util.regex.Matcher;
import java.util.regex.Pattern;

/** What of ../shared/LANGUAGE.md can be seen in the program's text. */
final class LanguageTest {
    private static final String[] NEVER = {"->", "::", "finally", "synchronized", "assert ", "catch", "extends", "instanceof", "import java.util.Random",
        "System.out", "nanoTime", "currentTime", "Thread", "Object ", "String", "double", "float", "Exact(", "package ", "native", "volatile", "transient"};
    private static final Pattern CALL = Pattern.compile("\\b(Math|Arrays|System|Integer|Long)\\.(\\w+)");
    private static final List<String> LIBRARY = List.of("Math.min", "Math.max", "Math.abs", "Arrays.fill", "System.arraycopy", "Integer.bitCount");
    private static final Pattern HEAD = Pattern.compile("^ {4,8}(?:public |private |static )*[\\w\\[\\]]+ \\w+\\(([^)]*)\\).* \\{$");

    private LanguageTest() {
    }

    static void run(Path program) throws IOException {
        List<String> lines = Files.readAllLines(program);
        int classes = 0;
        for (int k = 0; k < lines.size(); k++) {
            String line = lines.get(k);
            String code = line.trim().startsWith("*") || line.trim().startsWith("/") ? "" : line;
            String where = "line " + (k + 1) + ": " + line.trim();
            for (String word : NEVER) {
                Checks.check("no " + word + " in " + where, 0, code.contains(word) ? 1 : 0);
            }
            Matcher call = CALL.matcher(code.startsWith("import ") ? "" : code);
            while (call.find()) {
                Checks.check("the library of " + where, 1, LIBRARY.contains(call.group()) ? 1 : 0);
            }
            // All rows are made with the object: a call makes nothing but an exception.
            boolean inConstructor = code.matches(" {8}\\w+ = new \\w+\\(\\);");
            boolean inField = code.matches(" {8}private final (int|long|byte)\\[\\] \\w+ = new .*");
            boolean made = code.contains("new ") && !inConstructor && !inField && !code.contains("throw new IndexOutOfBoundsException(\"");
            Checks.check("nothing made in " + where, 0, made ? 1 : 0);
            classes += code.contains("class ") ? 1 : 0;
            checkMethod(lines, k, code, where);
        }
        Checks.check("at most 12 classes", 1, classes <= 12 ? 1 : 0);
    }

    private static void checkMethod(List<String> lines, int start, String code, String where) {
        Matcher head = HEAD.matcher(code);
        if (!head.find()) {
            return;
        }
        int parameters = head.group(1).isEmpty() ? 0 : head.group(1).split(",").length;
        Checks.check("at most 7 parameters in " + where, 1, parameters <= 7 ? 1 : 0);
        String end = code.substring(0, code.length() - code.stripLeading().length()) + "}";
        int length = 1;
        while (start + length < lines.size() && !lines.get(start + length).equals(end)) {
            length++;
        }
        Checks.check("a short method: " + where, 1, length <= 60 ? 1 : 0);
    }
}
