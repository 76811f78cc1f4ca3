import java.util.List;
import java.util.function.LongSupplier;
import java.util.function.ToLongFunction;

/** Promises 49 to 56: changes, and undoing them. */
final class ChangesTest {
    private static final int[] WRONG = {-1, 4, Integer.MAX_VALUE, Integer.MIN_VALUE};

    private ChangesTest() {
    }

    static void run() {
        moving();
        weighing();
        inserting();
        dropping();
        reversing();
        lines();
        settings();
        undoing();
        keepingTen();
        undoAfterLoad();
    }

    private static CurveMeetings sample() {
        return Texts.of("curve a 1 2 1 3 4 2 5 6 3; curve b 7 8 1 9 10 2; curve c 0 0 1 1 1 1 2 2 1 3 3 1; curve d 0 10 1 20 10 1;"
            + "line l 1 2 3; line m 0 1 -10;");
    }

    /** All control points of a curve, each as x, y and weight in six digits. */
    private static long[] points(CurveMeetings x, int curve) {
        long[] points = new long[x.degree(curve) + 1];
        for (int k = 0; k < points.length; k++) {
            points[k] = 10000L * x.control(curve, k, 0) + 100 * x.control(curve, k, 1) + x.control(curve, k, 2);
        }
        return points;
    }

    private static void points(int promise, String after, CurveMeetings x, int curve, long... want) {
        long[] got = points(x, curve);
        Checks.due(promise, "control points after " + after, want.length, () -> got.length);
        Checks.dueRow(promise, "control point after " + after, want, k -> k < got.length ? got[k] : -1);
    }

    private static String shown(CurveMeetings x) {
        StringBuilder all = new StringBuilder();
        for (int curve = 0; curve < x.curveCount(); curve++) {
            all.append(java.util.Arrays.toString(points(x, curve)));
        }
        for (int line = 0; line < x.lineCount(); line++) {
            all.append(x.lineNumber(line, 0)).append(' ').append(x.lineNumber(line, 1)).append(' ').append(x.lineNumber(line, 2)).append(' ');
        }
        return all.append(x.getSetting(0)).append(' ').append(x.getSetting(1)).append(' ').append(x.undoCount()).toString();
    }

    /** A call on a new object that answers an error code, and changes nothing. */
    private static void refused(int promise, String call, long want, ToLongFunction<CurveMeetings> got) {
        CurveMeetings x = sample();
        refused(promise, call, want, x, () -> got.applyAsLong(x));
    }

    /** A call that answers an error code changes nothing. */
    private static void refused(int promise, String call, long want, CurveMeetings x, LongSupplier got) {
        String before = shown(x);
        Checks.due(promise, call, want, got);
        Checks.due(promise, call + " changes nothing", true, () -> shown(x).equals(before));
    }

    private static void moving() {
        CurveMeetings x = sample();
        Checks.due(49, "movePoint(0, 1, 20, 0)", 304, () -> x.movePoint(0, 1, 20, 0));
        points(49, "movePoint(0, 1, 20, 0)", x, 0, 10201, 200002, 50603);
        Checks.due(49, "movePoint(0, 1, 0, 20)", 2000, () -> x.movePoint(0, 1, 0, 20));
        points(49, "movePoint(0, 1, 0, 20)", x, 0, 10201, 2002, 50603);
        Checks.due(49, "movePoint to where it is", 20, () -> x.movePoint(0, 1, 0, 20));
        Checks.due(7, "undoCount() after moves", 3, () -> x.undoCount());
        points(49, "moves of others", x, 1, 70801, 91002);
        for (int wrong : WRONG) {
            refused(49, "movePoint of a wrong curve", -1, y -> y.movePoint(wrong, 0, 99, 0));
            refused(49, "movePoint of a wrong point", -1, y -> y.movePoint(0, wrong, 99, 0));
        }
        refused(49, "movePoint(0, 3, 1, 1)", -1, y -> y.movePoint(0, 3, 1, 1));
        refused(49, "movePoint(0, 0, 21, 1)", -2, y -> y.movePoint(0, 0, 21, 1));
        refused(49, "movePoint(0, 0, -1, 1)", -2, y -> y.movePoint(0, 0, -1, 1));
        refused(49, "movePoint(0, 0, 1, 21)", -2, y -> y.movePoint(0, 0, 1, 21));
        refused(49, "movePoint(0, 0, 1, -1)", -2, y -> y.movePoint(0, 0, 1, -1));
    }

    private static void weighing() {
        CurveMeetings x = sample();
        Checks.due(50, "setWeight(0, 2, 1)", 3, () -> x.setWeight(0, 2, 1));
        Checks.due(50, "setWeight(0, 2, 3)", 1, () -> x.setWeight(0, 2, 3));
        Checks.due(50, "setWeight(0, 0, 2)", 1, () -> x.setWeight(0, 0, 2));
        Checks.due(50, "setWeight(0, 0, 2) again", 2, () -> x.setWeight(0, 0, 2));
        Checks.due(7, "undoCount() after weights", 4, () -> x.undoCount());
        points(50, "setWeight", x, 0, 10202, 30402, 50603);
        for (int wrong : WRONG) {
            refused(50, "setWeight of a wrong curve", -1, y -> y.setWeight(wrong, 0, 9));
            refused(50, "setWeight of a wrong point", -1, y -> y.setWeight(0, wrong, 9));
            refused(50, "setWeight with a wrong weight", -2, y -> y.setWeight(0, 0, wrong));
        }
        refused(50, "setWeight(0, 3, 1)", -1, y -> y.setWeight(0, 3, 1));
        refused(50, "setWeight(0, 0, 0)", -2, y -> y.setWeight(0, 0, 0));
    }

    private static void inserting() {
        CurveMeetings x = sample();
        Checks.due(51, "insertPoint(1, 1, 0, 20, 3)", 2, () -> x.insertPoint(1, 1, 0, 20, 3));
        points(51, "insertPoint(1, 1, 0, 20, 3)", x, 1, 70801, 2003, 91002);
        Checks.due(51, "insertPoint(1, 0, 20, 0, 1)", 3, () -> x.insertPoint(1, 0, 20, 0, 1));
        points(51, "insertPoint(1, 0, 20, 0, 1)", x, 1, 200001, 70801, 2003, 91002);
        Checks.due(51, "insertPoint(0, 3, 1, 1, 1) at the end", 3, () -> x.insertPoint(0, 3, 1, 1, 1));
        points(51, "insertPoint(0, 3, 1, 1, 1)", x, 0, 10201, 30402, 50603, 10101);
        Checks.due(7, "undoCount() after insertPoint", 3, () -> x.undoCount());
        for (int wrong : WRONG) {
            refused(51, "insertPoint in a wrong curve", -1, y -> y.insertPoint(wrong, 9, 99, 0, 9));
            refused(51, "insertPoint with a wrong weight", -2, y -> y.insertPoint(3, 0, 0, 0, wrong));
        }
        refused(51, "insertPoint(3, 3, 0, 0, 1)", -2, y -> y.insertPoint(3, 3, 0, 0, 1));
        refused(51, "insertPoint(3, -1, 0, 0, 1)", -2, y -> y.insertPoint(3, -1, 0, 0, 1));
        refused(51, "insertPoint(3, 0, 21, 0, 1)", -2, y -> y.insertPoint(3, 0, 21, 0, 1));
        refused(51, "insertPoint(3, 0, -1, 0, 1)", -2, y -> y.insertPoint(3, 0, -1, 0, 1));
        refused(51, "insertPoint(3, 0, 0, 21, 1)", -2, y -> y.insertPoint(3, 0, 0, 21, 1));
        refused(51, "insertPoint(3, 0, 0, -1, 1)", -2, y -> y.insertPoint(3, 0, 0, -1, 1));
        refused(51, "insertPoint(3, 0, 0, 0, 0)", -2, y -> y.insertPoint(3, 0, 0, 0, 0));
        refused(51, "insertPoint(2, 4, 0, 0, 1)", -3, y -> y.insertPoint(2, 4, 0, 0, 1));
        refused(51, "insertPoint(2, 0, 0, 0, 1)", -3, y -> y.insertPoint(2, 0, 0, 0, 1));
        refused(51, "insertPoint(2, 5, 0, 0, 1)", -2, y -> y.insertPoint(2, 5, 0, 0, 1));
        refused(51, "insertPoint(2, 0, 0, 0, 4)", -2, y -> y.insertPoint(2, 0, 0, 0, 4));
    }

    private static void dropping() {
        CurveMeetings x = sample();
        Checks.due(52, "dropPoint(2, 1)", 2, () -> x.dropPoint(2, 1));
        points(52, "dropPoint(2, 1)", x, 2, 1, 20201, 30301);
        Checks.due(52, "dropPoint(2, 2)", 1, () -> x.dropPoint(2, 2));
        points(52, "dropPoint(2, 2)", x, 2, 1, 20201);
        refused(52, "dropPoint(2, 0) of two", -3, x, () -> x.dropPoint(2, 0));
        refused(52, "dropPoint(2, 2) of two", -1, x, () -> x.dropPoint(2, 2));
        Checks.due(52, "dropPoint(0, 0)", 1, () -> x.dropPoint(0, 0));
        points(52, "dropPoint(0, 0)", x, 0, 30402, 50603);
        Checks.due(7, "undoCount() after dropPoint", 3, () -> x.undoCount());
        for (int wrong : WRONG) {
            refused(52, "dropPoint of a wrong curve", -1, y -> y.dropPoint(wrong, 0));
            refused(52, "dropPoint of a wrong point", -1, y -> y.dropPoint(0, wrong));
        }
        x.undo();
        points(52, "undo of dropPoint(0, 0)", x, 0, 10201, 30402, 50603);
    }

    private static void reversing() {
        CurveMeetings x = sample();
        Checks.dueRow(53, "reverse", new long[] {2, 1, 3, 1, -1}, k -> x.reverse(k));
        points(53, "reverse(0)", x, 0, 50603, 30402, 10201);
        points(53, "reverse(1)", x, 1, 91002, 70801);
        points(53, "reverse(2)", x, 2, 30301, 20201, 10101, 1);
        Checks.due(7, "undoCount() after reverse", 4, () -> x.undoCount());
        for (int wrong : WRONG) {
            refused(53, "reverse of a wrong curve", -1, y -> y.reverse(wrong));
        }
    }

    private static void lines() {
        CurveMeetings x = sample();
        Checks.due(54, "setLine(0, 0, -5, 50)", 1, () -> x.setLine(0, 0, -5, 50));
        Checks.dueRow(54, "lineNumber(0, k) after setLine", new long[] {0, -5, 50}, k -> x.lineNumber(0, k));
        Checks.due(54, "setLine(1, 1, -1, 0)", 1, () -> x.setLine(1, 1, -1, 0));
        Checks.due(54, "setLine(1, 1, -1, 1)", 2, () -> x.setLine(1, 1, -1, 1));
        Checks.due(54, "setLine(1, 5, 0, -200)", 0, () -> x.setLine(1, 5, 0, -200));
        Checks.due(54, "setLine(1, -5, 0, 200)", 0, () -> x.setLine(1, -5, 0, 200));
        Checks.dueRow(54, "lineNumber(1, k) after setLine", new long[] {-5, 0, 200}, k -> x.lineNumber(1, k));
        Checks.due(54, "setLine(1, -5, 0, 200) again", 0, () -> x.setLine(1, -5, 0, 200));
        Checks.due(7, "undoCount() after setLine", 6, () -> x.undoCount());
        Checks.dueRow(54, "lineNumber(0, k) of the other line", new long[] {0, -5, 50}, k -> x.lineNumber(0, k));
        refused(54, "setLine(2, 0, 0, 0)", -1, y -> y.setLine(2, 0, 0, 0));
        refused(54, "setLine(-1, 1, 1, 1)", -1, y -> y.setLine(-1, 1, 1, 1));
        refused(54, "setLine(0, 0, 0, 1)", -2, y -> y.setLine(0, 0, 0, 1));
        refused(54, "setLine(0, 6, 1, 1)", -2, y -> y.setLine(0, 6, 1, 1));
        refused(54, "setLine(0, -6, 1, 1)", -2, y -> y.setLine(0, -6, 1, 1));
        refused(54, "setLine(0, 1, 6, 1)", -2, y -> y.setLine(0, 1, 6, 1));
        refused(54, "setLine(0, 1, -6, 1)", -2, y -> y.setLine(0, 1, -6, 1));
        refused(54, "setLine(0, 1, 1, 201)", -2, y -> y.setLine(0, 1, 1, 201));
        refused(54, "setLine(0, 1, 1, -201)", -2, y -> y.setLine(0, 1, 1, -201));
    }

    private static void settings() {
        CurveMeetings x = sample();
        Checks.due(55, "setSetting(LIMIT, 12)", 10, () -> x.setSetting(0, 12));
        Checks.due(55, "setSetting(LIMIT, 1)", 12, () -> x.setSetting(0, 1));
        Checks.due(55, "setSetting(DEPTH, 6)", 4, () -> x.setSetting(1, 6));
        Checks.due(55, "setSetting(DEPTH, 1)", 6, () -> x.setSetting(1, 1));
        Checks.due(55, "setSetting(DEPTH, 1) again", 1, () -> x.setSetting(1, 1));
        Checks.due(55, "undoCount() after that", 5, () -> x.undoCount());
        Checks.due(55, "getSetting(LIMIT) after that", 1, () -> x.getSetting(0));
        Checks.due(55, "getSetting(DEPTH) after that", 1, () -> x.getSetting(1));
        refused(55, "setSetting(LIMIT, 0)", -2, y -> y.setSetting(0, 0));
        refused(55, "setSetting(LIMIT, 13)", -2, y -> y.setSetting(0, 13));
        refused(55, "setSetting(DEPTH, 0)", -2, y -> y.setSetting(1, 0));
        refused(55, "setSetting(DEPTH, 7)", -2, y -> y.setSetting(1, 7));
        refused(55, "setSetting(2, 1)", -2, y -> y.setSetting(2, 1));
        refused(55, "setSetting(-1, 1)", -2, y -> y.setSetting(-1, 1));
        Checks.due(56, "undo() of the same value", 4, () -> x.undo());
        Checks.due(56, "getSetting(DEPTH) then", 1, () -> x.getSetting(1));
        Checks.due(56, "undo()", 3, () -> x.undo());
        Checks.due(56, "getSetting(DEPTH) then", 6, () -> x.getSetting(1));
    }

    private static void undoing() {
        List<ToLongFunction<CurveMeetings>> changes = List.of(x -> x.movePoint(0, 0, 9, 9), x -> x.setWeight(1, 1, 3), x -> x.insertPoint(0, 1, 8, 8, 2),
            x -> x.dropPoint(2, 0), x -> x.reverse(0), x -> x.setLine(1, 3, 3, 3), x -> x.setSetting(0, 3), x -> x.setSetting(1, 2));
        CurveMeetings all = sample();
        String before = shown(all);
        changes.forEach(change -> change.applyAsLong(all));
        for (int left = changes.size() - 1; left >= 0; left--) {
            Checks.due(56, "undo() of change " + left, left, () -> all.undo());
        }
        Checks.due(56, "the figure after all undos", true, () -> shown(all).equals(before));
        refused(56, "undo() without a change", -1, all, () -> all.undo());
        for (ToLongFunction<CurveMeetings> change : changes) {
            CurveMeetings x = sample();
            change.applyAsLong(x);
            Checks.due(56, "a lone change", false, () -> shown(x).equals(before));
            Checks.due(56, "undo() of a lone change", 0, () -> x.undo());
            Checks.due(56, "the figure after that", true, () -> shown(x).equals(before));
        }
    }

    private static void keepingTen() {
        CurveMeetings x = sample();
        for (int k = 1; k <= 13; k++) {
            x.movePoint(0, 0, k, 0);
        }
        for (int left = 9; left >= 0; left--) {
            int kept = left;
            Checks.due(56, "undo() to " + left, left, () -> x.undo());
            Checks.due(56, "control(0, 0, 0) at " + left, left + 3, () -> x.control(0, 0, 0));
            Checks.due(56, "undoCount() at " + left, kept, () -> x.undoCount());
        }
        Checks.due(56, "undo() of more than ten", -1, () -> x.undo());
        Checks.due(56, "control(0, 0, 0) then", 3, () -> x.control(0, 0, 0));
        for (int k = 0; k < 4; k++) {
            x.movePoint(0, 0, 10 + k, 0);
        }
        Checks.due(56, "undo() of four", 3, () -> x.undo());
        Checks.due(56, "control(0, 0, 0) of four", 12, () -> x.control(0, 0, 0));
    }

    private static void undoAfterLoad() {
        CurveMeetings x = sample();
        x.reverse(0);
        Texts.load(x, "curve q");
        Checks.due(56, "undo() after a load with an error", 0, () -> x.undo());
        points(56, "undo after a load with an error", x, 0, 10201, 30402, 50603);
        x.reverse(0);
        Texts.load(x, "curve q 1 1 1 2 2 1;");
        Checks.due(56, "undo() after a load", -1, () -> x.undo());
        x.movePoint(0, 0, 3, 3);
        Checks.due(56, "undo() of a change after a load", 0, () -> x.undo());
        points(56, "undo of a change after a load", x, 0, 10101, 20201);
    }
}
