import java.io.IOException;
import java.io.InputStream;
import java.lang.reflect.Modifier;
import java.util.ArrayList;
import java.util.HashMap;
import java.util.List;
import java.util.Map;
import java.util.Set;

/** What of ../shared/LANGUAGE.md can be seen in the compiled program. */
final class CompiledTest {
    /** Rule 11: calls that are no recursion go at most eight deep. */
    private static final int DEEPEST = 8;
    /** Rule 4, and the constructors of the one exception and of what every class is. */
    private static final Set<String> LIBRARY = Set.of("java/lang/Math.min(II)I", "java/lang/Math.max(II)I", "java/lang/Math.abs(I)I",
        "java/lang/Integer.bitCount(I)I", "java/util/Arrays.fill([II)V", "java/lang/System.arraycopy(Ljava/lang/Object;ILjava/lang/Object;II)V",
        "java/lang/IndexOutOfBoundsException.<init>(Ljava/lang/String;)V", "java/lang/Object.<init>()V");
    private static final int PUBLIC = Modifier.PUBLIC;

    private final Map<String, ClassFile.Body> bodies = new HashMap<>();
    private final List<String> open = new ArrayList<>();

    private CompiledTest() {
    }

    static void run() throws IOException {
        CompiledTest test = new CompiledTest();
        test.read(CurveMeetings.class);
        for (Class<?> inside : CurveMeetings.class.getDeclaredClasses()) {
            test.read(inside);
        }
        for (ClassFile.Body body : test.bodies.values()) {
            checkBody(body);
        }
        int deepest = 0;
        for (ClassFile.Body body : test.bodies.values()) {
            if (body.name.startsWith("CurveMeetings.") && (body.access & PUBLIC) != 0) {
                deepest = Math.max(deepest, test.depthOf(body));
            }
        }
        Checks.check("calls that go at most " + DEEPEST + " deep, not " + deepest, 1, deepest >= 1 && deepest <= DEEPEST ? 1 : 0);
        Checks.check("methods read", 1, test.bodies.size() > 100 ? 1 : 0);
    }

    private void read(Class<?> owner) throws IOException {
        try (InputStream input = owner.getResourceAsStream(owner.getName() + ".class")) {
            for (ClassFile.Body body : ClassFile.bodiesOf(input.readAllBytes())) {
                bodies.put(body.name, body);
            }
        }
    }

    private static void checkBody(ClassFile.Body body) {
        Checks.check("nothing is caught in " + body.name, 0, body.handlers);
        boolean throwing = body.others.contains("throw");
        Checks.check("only parameters are refused by a throw: " + body.name, 0, throwing && !body.name.startsWith("CurveMeetings.require") ? 1 : 0);
        for (String made : body.made) {
            boolean exception = throwing && made.equals("java/lang/IndexOutOfBoundsException");
            Checks.check("nothing but rows in constructors, and the exception: " + made + " in " + body.name, 1, body.isConstructor() || exception ? 1 : 0);
        }
        for (String call : body.calls) {
            Checks.check("of the library: " + call + " in " + body.name, 1, call.startsWith("CurveMeetings") || LIBRARY.contains(call) ? 1 : 0);
        }
        for (String other : body.others) {
            boolean fine = other.equals("throw") || other.equals("divide");
            Checks.check("no " + other + " in " + body.name, 1, fine ? 1 : 0);
        }
    }

    /** How many calls stand open at most, this one counted; one that stands open already is a recursion. */
    private int depthOf(ClassFile.Body body) {
        int below = 0;
        open.add(body.name);
        for (String call : body.calls) {
            ClassFile.Body next = bodies.get(call);
            if (next != null && !open.contains(call)) {
                below = Math.max(below, depthOf(next));
            }
        }
        open.remove(open.size() - 1);
        return below + 1;
    }
}
