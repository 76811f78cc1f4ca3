import java.lang.reflect.Constructor;
import java.lang.reflect.Field;
import java.lang.reflect.Method;
import java.lang.reflect.Modifier;
import java.util.Set;
import java.util.TreeSet;

/** The face: just the constants, the constructor and the methods that the document has, and no other member to be seen. */
final class FaceTest {
    private static final String CONSTANTS = "LIMIT 0 DEPTH 1 EXACT 0 ISOLATED 1 DOUBTFUL 2 NOT_FOUND -1 BAD_VALUE -2 FULL -3"
        + " SYNTAX_ERROR -11 RANGE_ERROR -12 DUPLICATE_ERROR -13 COUNT_ERROR -14";
    /** Result, name, number of parameters; ! for the exception that is declared. */
    private static final String METHODS = "int feed 5;int load 1;int errorPosition 0;int curveCount 0;int lineCount 0;int undoCount 0;"
        + "int curveNamed 1;int lineNamed 1;int getSetting 1;int degree 1!;int control 3!;int lineNumber 2!;long cellControl 5!;"
        + "long placeNumerator 4!;long placeDenominator 4!;int boxSide 4!;boolean isStraight 1!;int hullSize 1!;int hullCorner 2!;"
        + "int coefficient 3!;int signChanges 4!;boolean isOn 2!;int sideOf 3!;int rootCount 2!;int rootsOf 3!;int rootKind 3!;"
        + "int rootDepth 3!;int rootCell 3!;int refined 4!;boolean isTangent 2!;int linesMet 1!;int curvesMet 1!;int busiestLine 0;"
        + "int bandLow 1!;int bandHigh 1!;int firstLeft 2!;int lastLeft 2!;int pairCount 2!;int pair 3!;int meetingCount 2!;"
        + "int meetingOf 4!;int meetingNumber 4!;int sameness 2!;int sharedEnds 2!;int curvesNear 1!;int busiestCurve 0;"
        + "int rootsIfMoved 5!;int movePoint 4;int setWeight 3;int insertPoint 5;int dropPoint 2;int reverse 1;int setLine 4;"
        + "int setSetting 2;int undo 0;";

    private FaceTest() {
    }

    static void run() throws IllegalAccessException {
        Class<CurveMeetings> face = CurveMeetings.class;
        Checks.due(1, "public and final", Modifier.PUBLIC | Modifier.FINAL, () -> face.getModifiers());
        Checks.due(1, "without a package", true, () -> face.getPackageName().isEmpty());
        constants(face);
        methods(face);
        Constructor<?>[] constructors = face.getDeclaredConstructors();
        Checks.due(1, "one constructor", 1, () -> constructors.length);
        Checks.due(1, "a public one without parameters", true,
            () -> constructors[0].getModifiers() == Modifier.PUBLIC && constructors[0].getParameterCount() == 0);
    }

    private static void constants(Class<?> face) throws IllegalAccessException {
        String[] wanted = CONSTANTS.split(" ");
        int seen = 0;
        for (Field field : face.getDeclaredFields()) {
            if (!Modifier.isPrivate(field.getModifiers())) {
                seen++;
                String shown = Modifier.toString(field.getModifiers()) + " " + field.getType() + " " + field.getName() + " " + field.get(null);
                boolean known = false;
                for (int k = 0; k < wanted.length; k += 2) {
                    known |= shown.equals("public static final int " + wanted[k] + " " + wanted[k + 1]);
                }
                Checks.check("the document has the constant " + shown, 1, known ? 1 : 0);
            }
        }
        Checks.check("number of constants", wanted.length / 2, seen);
    }

    private static void methods(Class<?> face) {
        Set<String> wanted = new TreeSet<>(Set.of(METHODS.split(";")));
        Set<String> seen = new TreeSet<>();
        Set<String> names = new TreeSet<>();
        for (Method method : face.getDeclaredMethods()) {
            if (Modifier.isPublic(method.getModifiers())) {
                seen.add(method.getReturnType() + " " + method.getName() + " " + method.getParameterCount()
                    + (method.getExceptionTypes().length == 1 && method.getExceptionTypes()[0] == IndexOutOfBoundsException.class ? "!" : ""));
                names.add(method.getName());
                for (Class<?> type : method.getParameterTypes()) {
                    Checks.check("a parameter of " + method.getName() + " is an int", 1, type == int.class ? 1 : 0);
                }
            }
        }
        Checks.check("the methods are those of the document: " + seen, 1, seen.equals(wanted) ? 1 : 0);
        Set<Class<?>> classes = new java.util.HashSet<>(Set.of(face.getDeclaredClasses()));
        classes.add(face);
        for (Class<?> owner : classes) {
            for (Method method : owner.getDeclaredMethods()) {
                boolean own = Modifier.isPublic(method.getModifiers());
                boolean seenFromOutside = owner == face && !own && !Modifier.isPrivate(method.getModifiers()) && !method.isSynthetic();
                Checks.check(method + " is public or private", 0, seenFromOutside ? 1 : 0);
                Checks.check(method + " bears a name of its own", 0, !own && names.contains(method.getName()) ? 1 : 0);
            }
            for (Field field : owner.getDeclaredFields()) {
                boolean constant = Modifier.isStatic(field.getModifiers());
                Checks.check(field + " is final if it is static", 1, !constant || Modifier.isFinal(field.getModifiers()) ? 1 : 0);
            }
        }
    }
}
