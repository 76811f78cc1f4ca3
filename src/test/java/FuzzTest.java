import java.lang.reflect.InvocationTargetException;
import java.lang.reflect.Method;
import java.lang.reflect.Modifier;
import java.util.ArrayList;
import java.util.Comparator;
import java.util.List;

/** Sends the same calls, the same ones each time, to the program and to the model, and compares the answers. */
final class FuzzTest {
    private static final int RUNS = 700;
    /** What later calls answer is free. */
    private static final int CALLS = 512;
    private static final int SWEEPS = 150;
    private static final int[] WILD = {-1, Integer.MIN_VALUE, Integer.MAX_VALUE, -100, 64, 4096, 1 << 30, 31, 32, 33};

    /** Heights above a line that make roots twice or three times, near them, on joints or outside. */
    private static final int[][] SHAPES = {{1, -1, 1}, {0, 0, 1}, {1, 0, 0}, {4, -2, 1}, {9, -3, 1}, {1, -2, 4}, {1, 2, 4},
        {1, -1, 1, -1}, {0, 0, 0, 1}, {8, -4, 2, -1}, {0, 1, -1}, {0, -2, 1, 0}, {3, -1, -1, 3}, {3, -2, 1, 0},
        {0, 4, -5, 3}, {2, -3, 4}, {1, -5, 5, -1}, {1, -3, 3, -1}, {0, 0, -2, 3}, {6, -3, 2, 0}, {0, 0, 0, 0}, {0, 1, 0},
        {2, -1, 0, 1}, {9, -3, -1, 3}, {5, -10, 10, -4}, {-1, 1}, {0, 2}, {3, 0, -1, 0}, {2, -1, -1, 3}, {8, 0, -2, -1}};

    private final List<Method> own = new ArrayList<>();
    private final List<Method> models = new ArrayList<>();
    private final StringBuilder log = new StringBuilder();
    private long seed;
    private CurveMeetings program;
    private Model model;
    private boolean wrong;
    private int calls;

    static void run() throws ReflectiveOperationException {
        new FuzzTest().runAll();
    }

    private void runAll() throws ReflectiveOperationException {
        for (Method method : CurveMeetings.class.getDeclaredMethods()) {
            if (Modifier.isPublic(method.getModifiers())) {
                own.add(method);
            }
        }
        own.sort(Comparator.comparing(Method::getName));
        for (Method method : own) {
            models.add(Model.class.getMethod(method.getName(), method.getParameterTypes()));
        }
        for (int run = 0; run < RUNS; run++) {
            seed = 7919L * run + 1;
            oneRun();
            Checks.check("random run " + run + ":\n" + log, 0, wrong ? 1 : 0);
        }
        for (int sweep = 0; sweep < SWEEPS; sweep++) {
            seed = 104729L * sweep + 3;
            String text = text(1 + random(3));
            sweepLines(text);
            sweepCurves(text);
        }
    }

    /** New objects for each two curves, so that none is used for more than 512 calls. */
    private void begin(String text) throws ReflectiveOperationException {
        makeObjects();
        loadText(text);
    }

    private void makeObjects() {
        program = new CurveMeetings();
        model = new Model();
        wrong = false;
        calls = 0;
        log.setLength(0);
    }

    private void end(String text) {
        Checks.check("sweep of " + text + ":\n" + log, 0, wrong ? 1 : 0);
    }

    /** All that is asked of a curve and a line. */
    private void sweepLines(String text) throws ReflectiveOperationException {
        for (int curve = 0; curve < 8; curve++) {
            begin(text);
            for (int line = 0; line < 2; line++) {
                for (String name : new String[] {"rootCount", "isTangent", "isOn"}) {
                    call(name, curve, line);
                }
                for (int root = -1; root < 4; root++) {
                    for (String name : new String[] {"coefficient", "sideOf", "rootsOf", "rootKind", "rootDepth", "rootCell"}) {
                        call(name, curve, line, root);
                    }
                    for (int depth = -1; depth < 14; depth++) {
                        call("refined", curve, line, root, depth);
                        call("signChanges", curve, line, depth, random(1 << random(depth + 2)));
                    }
                }
            }
            end(text);
        }
    }

    /** All that is asked of two curves. */
    private void sweepCurves(String text) throws ReflectiveOperationException {
        for (int curve = 0; curve < 4; curve++) {
            int other = random(4);
            begin(text);
            for (String name : new String[] {"pairCount", "meetingCount", "firstLeft", "lastLeft", "sameness", "sharedEnds"}) {
                call(name, curve, other);
                call(name, other, curve);
            }
            for (int k = 0; k < 60; k++) {
                call("pair", curve, other, k);
                if (curve < model.curveCount() && other < model.curveCount()) {
                    int pair = model.pair(curve, other, random(Math.max(1, model.pairCount(curve, other))));
                    call("meetingOf", curve, other, pair / 100, pair % 100);
                    call("meetingOf", curve, other, pair / 100 + random(3) - 1, pair % 100 + random(3) - 1);
                }
            }
            for (int meeting = 0; meeting < 4; meeting++) {
                for (int what = 0; what < 6; what++) {
                    call("meetingNumber", curve, other, meeting, what);
                }
            }
            end(text);
        }
    }

    private int random(int bound) {
        seed = seed * 6364136223846793005L + 1442695040888963407L;
        return (int) ((seed >>> 33) % bound);
    }

    private void oneRun() throws ReflectiveOperationException {
        makeObjects();
        int grid = 1 + random(6);
        if (random(10) > 0) {
            loadText(text(grid));
        }
        while (calls < CALLS && !wrong) {
            int choice = random(150);
            if (choice == 0) {
                loadText(text(grid));
            } else if (choice < 6) {
                loadText(spoilt(text(grid)));
            } else {
                int index = random(own.size());
                String name = own.get(index).getName();
                if (random(30) == 0 || !name.equals("load") && !name.equals("feed")) {
                    call(index, arguments(own.get(index), grid));
                }
            }
        }
    }

    // ---- texts ----

    private int place(int grid) {
        return random(20 / grid + 1) * grid;
    }

    private String text(int grid) {
        StringBuilder text = new StringBuilder();
        int curves = 1 + random(8);
        int lines = 1 + random(6);
        int statement = 0;
        int before = 0;
        for (int k = 0; k < curves; k++) {
            int start = text.length();
            text.append("curve ").append(name(statement++));
            if (k > 0 && random(6) == 0) {
                text.append(again(text.substring(before, start)));
                continue;
            }
            before = start;
            int[] shape = random(2) == 0 ? SHAPES[random(SHAPES.length)] : null;
            int points = shape == null ? 2 + random(3) : shape.length;
            int weights = random(2) == 0 ? 1 : random(3) + 1;
            for (int point = 0; point < points; point++) {
                text.append(' ').append(place(grid)).append(' ').append(shape == null ? place(grid) : 10 + shape[point]);
                text.append(' ').append(1 + random(weights));
            }
            text.append(";\n");
        }
        for (int k = 0; k < lines; k++) {
            int a = k > 0 && random(3) == 0 ? random(11) - 5 : 0;
            int b = k == 0 ? 1 : a == 0 || random(2) == 0 ? 1 + random(2) : random(11) - 5;
            text.append("line ").append(name(statement++)).append(' ').append(a).append(' ');
            text.append(b).append(' ').append(k == 0 ? -10 : a == 0 ? -place(grid) : random(2) == 0 ? -10 * random(8) : random(401) - 200);
            text.append(random(3) == 0 ? " ; " : ";");
        }
        if (random(2) == 0) {
            text.append("set limit ").append(1 + random(12)).append(';');
        }
        if (random(3) > 0) {
            text.append("set depth ").append(1 + random(random(6) + 1)).append(';');
        }
        return text.toString();
    }

    /** The control points of a statement once more, at times in opposite order or with greater weights. */
    private String again(String statement) {
        String[] words = statement.substring(0, statement.indexOf(';')).split(" ");
        StringBuilder points = new StringBuilder();
        boolean backwards = random(2) == 0;
        int factor = 1 + random(2);
        int count = (words.length - 2) / 3;
        for (int k = 0; k < count; k++) {
            int at = 2 + 3 * (backwards ? count - 1 - k : k);
            int weight = Math.min(3, Integer.parseInt(words[at + 2]) * factor);
            points.append(' ').append(words[at]).append(' ').append(words[at + 1]).append(' ').append(weight);
        }
        return points.append(";\n").toString();
    }

    private String name(int statement) {
        String letters = "abcdefghijklmnop";
        String name = letters.substring(statement, statement + 1);
        return random(3) == 0 ? name.repeat(1 + random(6)) : name;
    }

    private String spoilt(String text) {
        StringBuilder result = new StringBuilder(text);
        String[] pieces = {";", "-", " ", "\n", "curve ", "line", "set ", "limit", "depth ", "0", "00", "7", "21", "a",
            "99999999999", "!", "\u00ff", "\u0000", "c 1 1 1", "curve q 1 1 1 2 2 2;", "line r 0 0 1;", "-0", "4", " 3",
            "line t 5 -5 200;", "set limit 12;", "set depth 6;", "abcdefg", "curve i 0 0 1 1 1 1 2 2 2 3 3 3 4 4 1;"};
        for (int k = 1 + random(2); k > 0 && result.length() > 0; k--) {
            int at = random(result.length());
            switch (random(4)) {
                case 0 -> result.deleteCharAt(at);
                case 1 -> result.insert(at, pieces[random(pieces.length)]);
                case 2 -> result.replace(at, at + 1, pieces[random(pieces.length)]);
                default -> result.setLength(random(4) == 0 ? at : result.length());
            }
        }
        String end = random(3) == 0 ? pieces[random(pieces.length)] : "";
        return result + end;
    }

    private void loadText(String text) throws ReflectiveOperationException {
        String most = text.length() > 800 ? text.substring(0, 800) : text;
        for (int start = 0; start < most.length(); start += 20) {
            int[] words = new int[5];
            for (int k = 0; k < 20; k++) {
                int sign = start + k < most.length() ? most.charAt(start + k) : ' ';
                words[k / 4] |= (sign & 255) << 24 - k % 4 * 8;
            }
            call("feed", words[0], words[1], words[2], words[3], words[4]);
        }
        call("load", most.length());
        call("errorPosition");
    }

    // ---- calls ----

    private Object[] arguments(Method method, int grid) {
        Object[] arguments = new Object[method.getParameterCount()];
        int depth = 0;
        for (int k = 0; k < arguments.length; k++) {
            String name = method.getParameters()[k].getName();
            int value = random(40) == 0 ? WILD[random(WILD.length)] : argument(method.getName(), name, grid, depth);
            if (name.equals("depth")) {
                depth = Math.max(0, Math.min(12, value));
            }
            arguments[k] = value;
        }
        return arguments;
    }

    private int argument(String method, String name, int grid, int depth) {
        switch (name) {
            case "curve", "other":
                return random(Math.max(1, model.curveCount())) + (random(20) == 0 ? 1 : 0);
            case "line":
                return random(Math.max(1, model.lineCount())) + (random(20) == 0 ? 1 : 0);
            case "x", "y":
                return random(9) == 0 ? random(24) - 2 : random(2) == 0 ? 10 : place(grid);
            case "depth":
                return random(method.equals("refined") || method.equals("signChanges") ? 14 : 8);
            case "cell":
                return random(method.equals("meetingOf") ? 1 << random(7) : (1 << depth) + 1) / (1 + random(3));
            case "otherCell":
                return random(1 << random(7));
            case "k":
                return method.equals("pair") ? random(1 << random(13)) : random(10) == 0 ? random(6) - 1 : random(4);
            case "a", "b":
                return method.equals("feed") ? random(1 << 30) * 4 : random(13) - 6;
            case "c":
                return random(450) - 225;
            case "root":
                return random(random(4) + 1);
            case "letters":
                return Texts.letters(name(random(15)));
            case "length":
                return random(820);
            default:
                return random(6);
        }
    }

    private void call(String name, Object... arguments) throws ReflectiveOperationException {
        for (int index = 0; index < own.size(); index++) {
            if (own.get(index).getName().equals(name)) {
                call(index, arguments);
            }
        }
    }

    private void call(int index, Object[] arguments) throws ReflectiveOperationException {
        if (wrong || calls >= CALLS) {
            return;
        }
        calls++;
        Object got = answer(own.get(index), program, arguments);
        Object want = answer(models.get(index), model, arguments);
        log.append(own.get(index).getName()).append(java.util.Arrays.toString(arguments)).append(" answered ").append(got);
        if (!got.equals(want)) {
            wrong = true;
            log.append(", due is ").append(want);
        }
        log.append('\n');
    }

    private static Object answer(Method method, Object object, Object[] arguments) throws ReflectiveOperationException {
        try {
            return method.invoke(object, arguments);
        } catch (InvocationTargetException e) {
            return "throws " + e.getCause().getClass().getName();
        }
    }
}
