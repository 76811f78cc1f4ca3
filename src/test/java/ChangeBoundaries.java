import java.util.function.LongSupplier;

/** Promises 49 to 56 at their boundaries: changes, undoing them, and how long an object is used. */
final class ChangeBoundaries {
    private static final int MIN = Integer.MIN_VALUE;
    private static final int MAX = Integer.MAX_VALUE;
    private static final int[] CURVES = {MIN, -1, 4, 5, 8, MAX};

    private ChangeBoundaries() {
    }

    static void run() {
        moving();
        weighing();
        inserting();
        insertPlaces();
        dropping();
        reversing();
        settingLines();
        linesThatCurvesLieOn();
        settingSettings();
        sameValues();
        refusedCalls();
        refusedQuestions();
        undoing();
        keepingTen();
        undoAndLoad();
        longUse();
    }

    /** Curves with 2, 3, 4 and 2 control points, and two lines. */
    private static CurveMeetings sample() {
        return Texts.of("curve a 0 0 1 20 20 3; curve b 1 2 1 3 4 2 5 6 3; curve c 0 1 1 2 3 1 4 5 1 6 7 1; curve d 7 8 2 9 10 2;"
            + "line l 1 2 3; line m 0 1 -10;");
    }

    /** All that the face tells of the figure itself, and the buffer's errors and changes. */
    private static String shown(CurveMeetings x) {
        StringBuilder all = new StringBuilder();
        for (int curve = 0; curve < x.curveCount(); curve++) {
            for (int k = 0; k <= x.degree(curve); k++) {
                all.append(x.control(curve, k, 0)).append(' ').append(x.control(curve, k, 1)).append(' ').append(x.control(curve, k, 2)).append(' ');
            }
            all.append(x.cellControl(curve, 6, 33, 1, 0)).append(';');
        }
        for (int line = 0; line < x.lineCount(); line++) {
            all.append(x.lineNumber(line, 0)).append(' ').append(x.lineNumber(line, 1)).append(' ').append(x.lineNumber(line, 2)).append(';');
        }
        return all.append(x.getSetting(0)).append(' ').append(x.getSetting(1)).append(' ').append(x.undoCount()).toString();
    }

    /** One call with one argument. */
    private interface Call {
        long of(CurveMeetings x, int argument);
    }

    /** A call that returns an error code: it answers that, and the figure is as it was before. */
    private static void refused(String call, long want, CurveMeetings x, LongSupplier got) {
        String before = shown(x);
        Checks.due(call, want, got);
        Checks.due(call + " changes nothing", true, () -> shown(x).equals(before));
    }

    private static void refused(String call, long want, Call got) {
        CurveMeetings x = sample();
        x.setSetting(0, 9);
        refused(call, want, x, () -> got.of(x, 0));
        Checks.due(call + " leaves what undo() undoes", 0, () -> x.undo());
        Checks.due("getSetting(LIMIT) then", 10, () -> x.getSetting(0));
    }

    /** A new object for each argument, so that none is used for too many calls. */
    private static void refusedAt(String call, int[] arguments, long want, Call got) {
        for (int argument : arguments) {
            refused(call + " at " + argument, want, (x, none) -> got.of(x, argument));
        }
    }

    private static void control(CurveMeetings x, int curve, int k, int... want) {
        for (int what = 0; what < 3; what++) {
            int at = what;
            Checks.due("control(" + curve + ", " + k + ", " + what + ")", want[what], () -> x.control(curve, k, at));
        }
    }

    // ---- promises 49 to 53 ----

    private static void moving() {
        CurveMeetings x = sample();
        Checks.says(49, "x: 0 to 20; y: 0 to 20; BAD_VALUE if x or y is out of range");
        int[] wrong = {MIN, -2, -1, 21, 22, 200, MAX};
        refusedAt("movePoint(2, 3, x, 0)", wrong, -2, (y, k) -> y.movePoint(2, 3, k, 0));
        refusedAt("movePoint(2, 3, 0, y)", wrong, -2, (y, k) -> y.movePoint(2, 3, 0, k));
        refused("movePoint(2, 3, 21, 21)", -2, (y, k) -> y.movePoint(2, 3, 21, 21));
        Checks.says(49, "Returns its previous place: 100 times x plus y");
        Checks.due("movePoint(0, 0, 0, 20) from 0, 0", 0, () -> x.movePoint(0, 0, 0, 20));
        control(x, 0, 0, 0, 20, 1);
        Checks.due("movePoint(0, 0, 20, 0) from 0, 20", 20, () -> x.movePoint(0, 0, 20, 0));
        control(x, 0, 0, 20, 0, 1);
        Checks.due("movePoint(0, 0, 1, 19) from 20, 0", 2000, () -> x.movePoint(0, 0, 1, 19));
        Checks.due("movePoint(0, 0, 19, 1) from 1, 19", 119, () -> x.movePoint(0, 0, 19, 1));
        Checks.due("movePoint(0, 1, 0, 0) from 20, 20", 2020, () -> x.movePoint(0, 1, 0, 0));
        control(x, 0, 0, 19, 1, 1);
        control(x, 0, 1, 0, 0, 3);
        Checks.due("movePoint(2, 3, 20, 20), the last one", 607, () -> x.movePoint(2, 3, 20, 20));
        control(x, 2, 3, 20, 20, 1);
        control(x, 2, 2, 4, 5, 1);
        control(x, 3, 0, 7, 8, 2);
        Checks.says(49, "NOT_FOUND if curve or k is not a valid index; .. checked in this order");
        refusedAt("movePoint(curve, 0, 0, 0)", CURVES, -1, (y, k) -> y.movePoint(k, 0, 0, 0));
        refusedAt("movePoint(curve, 9, 99, 99)", CURVES, -1, (y, k) -> y.movePoint(k, 9, 99, 99));
        for (int curve = 0; curve < 4; curve++) {
            int at = curve;
            int size = x.degree(curve) + 1;
            refusedAt("movePoint(" + curve + ", k, 0, 0)", new int[] {MIN, -1, size, size + 1, MAX}, -1, (y, k) -> y.movePoint(at, k, 0, 0));
            refusedAt("movePoint(" + curve + ", k, 99, 99)", new int[] {MIN, -1, size, MAX}, -1, (y, k) -> y.movePoint(at, k, 99, 99));
        }
    }

    private static void weighing() {
        CurveMeetings x = sample();
        Checks.says(50, "weight: 1 to 3; BAD_VALUE if weight is out of range");
        refusedAt("setWeight(2, 3, weight)", new int[] {MIN, -1, 0, 4, 5, MAX}, -2, (y, k) -> y.setWeight(2, 3, k));
        Checks.says(50, "Returns the previous weight");
        Checks.dueAt("setWeight(2, 3, weight)", new int[] {3, 2, 1, 1, 3}, new long[] {1, 3, 2, 1, 1}, k -> x.setWeight(2, 3, k));
        control(x, 2, 3, 6, 7, 3);
        Checks.dueAt("setWeight(0, 1, weight)", new int[] {1, 2}, new long[] {3, 1}, k -> x.setWeight(0, 1, k));
        control(x, 0, 1, 20, 20, 2);
        control(x, 0, 0, 0, 0, 1);
        Checks.says(50, "NOT_FOUND if curve or k is not a valid index; .. checked in this order");
        refusedAt("setWeight(curve, 0, 1)", CURVES, -1, (y, k) -> y.setWeight(k, 0, 1));
        refusedAt("setWeight(curve, 9, 9)", CURVES, -1, (y, k) -> y.setWeight(k, 9, 9));
        for (int curve = 0; curve < 4; curve++) {
            int at = curve;
            int size = x.degree(curve) + 1;
            refusedAt("setWeight(" + curve + ", k, 1)", new int[] {MIN, -1, size, size + 1, MAX}, -1, (y, k) -> y.setWeight(at, k, 1));
            refusedAt("setWeight(" + curve + ", k, 9)", new int[] {MIN, -1, size, MAX}, -1, (y, k) -> y.setWeight(at, k, 9));
        }
    }

    private static void inserting() {
        CurveMeetings x = sample();
        Checks.says(51, "NOT_FOUND if curve is not a valid index; .. checked in this order");
        refusedAt("insertPoint(curve, 0, 0, 0, 1)", CURVES, -1, (y, k) -> y.insertPoint(k, 0, 0, 0, 1));
        refusedAt("insertPoint(curve, 9, 99, 99, 9)", CURVES, -1, (y, k) -> y.insertPoint(k, 9, 99, 99, 9));
        Checks.says(51, "BAD_VALUE if another parameter is out of range");
        int[] places = {MIN, -1, 21, MAX};
        int[] weights = {MIN, -1, 0, 4, MAX};
        for (int curve = 0; curve < 4; curve++) {
            int at = curve;
            int size = x.degree(curve) + 1;
            refusedAt("insertPoint(" + curve + ", k, 0, 0, 1)", new int[] {MIN, -1, size + 1, size + 2, MAX}, -2, (y, k) -> y.insertPoint(at, k, 0, 0, 1));
            refusedAt("insertPoint(" + curve + ", 0, x, 0, 1)", places, -2, (y, k) -> y.insertPoint(at, 0, k, 0, 1));
            refusedAt("insertPoint(" + curve + ", 0, 0, y, 1)", places, -2, (y, k) -> y.insertPoint(at, 0, 0, k, 1));
            refusedAt("insertPoint(" + curve + ", 0, 0, 0, weight)", weights, -2, (y, k) -> y.insertPoint(at, 0, 0, 0, k));
        }
        Checks.says(51, "FULL if there are 4 control points");
        refusedAt("insertPoint(2, k, 0, 0, 1)", new int[] {0, 1, 2, 3, 4}, -3, (y, k) -> y.insertPoint(2, k, 0, 0, 1));
        refused("insertPoint(2, 4, 20, 20, 3)", -3, (y, k) -> y.insertPoint(2, 4, 20, 20, 3));
        Checks.due("insertPoint(1, 3, 20, 20, 3) of three", 3, () -> x.insertPoint(1, 3, 20, 20, 3));
        control(x, 1, 3, 20, 20, 3);
        refused("insertPoint(1, 4, 20, 20, 3) of four then", -3, x, () -> x.insertPoint(1, 4, 20, 20, 3));
        refused("insertPoint(1, 5, 20, 20, 3) of four then", -2, x, () -> x.insertPoint(1, 5, 20, 20, 3));
    }

    private static void insertPlaces() {
        Checks.says(51, "the index that it has then, 0 to the number of control points; Returns the degree then");
        for (int curve = 0; curve < 2; curve++) {
            int at = curve;
            int size = curve + 2;
            for (int place = 0; place <= size; place++) {
                CurveMeetings x = sample();
                int k = place;
                int[][] before = new int[size][];
                for (int j = 0; j < size; j++) {
                    before[j] = new int[] {x.control(at, j, 0), x.control(at, j, 1), x.control(at, j, 2)};
                }
                Checks.due("insertPoint(" + at + ", " + k + ", 11, 12, 2)", size, () -> x.insertPoint(at, k, 11, 12, 2));
                control(x, at, k, 11, 12, 2);
                for (int j = 0; j < size; j++) {
                    control(x, at, j < k ? j : j + 1, before[j]);
                }
                control(x, 2, 3, 6, 7, 1);
                Checks.due("degree(" + at + ")", size, () -> x.degree(at));
                Checks.due("control behind the last one", -1, () -> x.control(at, size + 1, 0));
            }
        }
    }

    private static void dropping() {
        CurveMeetings x = sample();
        Checks.says(52, "NOT_FOUND if curve or k is not a valid index; .. checked in this order");
        refusedAt("dropPoint(curve, 0)", CURVES, -1, (y, k) -> y.dropPoint(k, 0));
        for (int curve = 0; curve < 4; curve++) {
            int at = curve;
            int size = x.degree(curve) + 1;
            refusedAt("dropPoint(" + curve + ", k)", new int[] {MIN, -1, size, size + 1, MAX}, -1, (y, k) -> y.dropPoint(at, k));
        }
        Checks.says(52, "FULL if there are only 2 control points");
        refusedAt("dropPoint(0, k)", new int[] {0, 1}, -3, (y, k) -> y.dropPoint(0, k));
        Checks.says(52, "Returns the degree then");
        for (int curve = 1; curve < 3; curve++) {
            int at = curve;
            int size = curve + 2;
            for (int place = 0; place < size; place++) {
                CurveMeetings y = sample();
                int k = place;
                int[][] before = new int[size][];
                for (int j = 0; j < size; j++) {
                    before[j] = new int[] {y.control(at, j, 0), y.control(at, j, 1), y.control(at, j, 2)};
                }
                Checks.due("dropPoint(" + at + ", " + k + ")", size - 2, () -> y.dropPoint(at, k));
                for (int j = 0; j < size - 1; j++) {
                    control(y, at, j, before[j < k ? j : j + 1]);
                }
                Checks.due("control behind the last one", -1, () -> y.control(at, size - 1, 0));
                control(y, 3, 0, 7, 8, 2);
            }
        }
        CurveMeetings z = sample();
        Checks.due("dropPoint(2, 3) of four", 2, () -> z.dropPoint(2, 3));
        refused("dropPoint(2, 3) of three", -1, z, () -> z.dropPoint(2, 3));
        Checks.due("dropPoint(2, 0) of three", 1, () -> z.dropPoint(2, 0));
        refused("dropPoint(2, 0) of two", -3, z, () -> z.dropPoint(2, 0));
        refused("dropPoint(2, 2) of two", -1, z, () -> z.dropPoint(2, 2));
        control(z, 2, 0, 2, 3, 1);
        control(z, 2, 1, 4, 5, 1);
    }

    private static void reversing() {
        CurveMeetings x = sample();
        Checks.says(53, "NOT_FOUND if curve is not a valid index");
        refusedAt("reverse", CURVES, -1, (y, k) -> y.reverse(k));
        Checks.says(53, "Returns its degree");
        Checks.dueAt("reverse", new int[] {0, 1, 2, 3}, new long[] {1, 2, 3, 1}, k -> x.reverse(k));
        Checks.says(53, "the order of the control points, of 2, 3 and 4");
        control(x, 0, 0, 20, 20, 3);
        control(x, 0, 1, 0, 0, 1);
        control(x, 1, 0, 5, 6, 3);
        control(x, 1, 1, 3, 4, 2);
        control(x, 1, 2, 1, 2, 1);
        control(x, 2, 0, 6, 7, 1);
        control(x, 2, 1, 4, 5, 1);
        control(x, 2, 2, 2, 3, 1);
        control(x, 2, 3, 0, 1, 1);
        control(x, 3, 0, 9, 10, 2);
    }

    // ---- promises 54 and 55 ----

    private static void settingLines() {
        CurveMeetings x = sample();
        Checks.says(54, "NOT_FOUND if line is not a valid index; .. checked in this order");
        int[] lines = {MIN, -1, 2, 3, 6, MAX};
        refusedAt("setLine(line, 1, 1, 1)", lines, -1, (y, k) -> y.setLine(k, 1, 1, 1));
        refusedAt("setLine(line, 0, 0, 0)", lines, -1, (y, k) -> y.setLine(k, 0, 0, 0));
        refusedAt("setLine(line, 9, 9, 999)", lines, -1, (y, k) -> y.setLine(k, 9, 9, 999));
        Checks.says(54, "a: -5 to 5; b: -5 to 5; c: -200 to 200; BAD_VALUE if a, b or c is out of range");
        int[] slopes = {MIN, -7, -6, 6, 7, MAX};
        refusedAt("setLine(1, a, 1, 0)", slopes, -2, (y, k) -> y.setLine(1, k, 1, 0));
        refusedAt("setLine(1, 1, b, 0)", slopes, -2, (y, k) -> y.setLine(1, 1, k, 0));
        refusedAt("setLine(1, a, 0, 0)", slopes, -2, (y, k) -> y.setLine(1, k, 0, 0));
        refusedAt("setLine(1, 0, b, 0)", slopes, -2, (y, k) -> y.setLine(1, 0, k, 0));
        refusedAt("setLine(1, 1, 1, c)", new int[] {MIN, -202, -201, 201, 202, MAX}, -2, (y, k) -> y.setLine(1, 1, 1, k));
        Checks.says(54, "or a and b are both 0");
        refusedAt("setLine(1, 0, 0, c)", new int[] {-200, -1, 0, 1, 200, 201}, -2, (y, k) -> y.setLine(1, 0, 0, k));
        Checks.says(54, "Sets the numbers of a line, at their greatest and least");
        int[][] good = {{5, 5, 200}, {-5, -5, -200}, {5, 0, 200}, {0, 5, -200}, {-5, 0, 0}, {0, -5, 1}, {1, 0, 0}, {0, -1, 0}, {-1, 0, -1}, {4, -4, 199}};
        for (int[] numbers : good) {
            String call = "setLine(1, " + numbers[0] + ", " + numbers[1] + ", " + numbers[2] + ")";
            Checks.due(call, 0, () -> x.setLine(1, numbers[0], numbers[1], numbers[2]));
            Checks.dueAt("lineNumber after " + call, new int[] {0, 1, 2}, new long[] {numbers[0], numbers[1], numbers[2]}, k -> x.lineNumber(1, k));
            Checks.dueAt("lineNumber(0, what) after " + call, new int[] {0, 1, 2}, new long[] {1, 2, 3}, k -> x.lineNumber(0, k));
        }
    }

    private static void linesThatCurvesLieOn() {
        Checks.says(54, "Returns the number of curves that lie on it then");
        CurveMeetings x = sample();
        // a is on x = y; b and c are on y = x + 1, and d is, too.
        Checks.due("setLine(0, 1, -1, 0)", 1, () -> x.setLine(0, 1, -1, 0));
        Checks.due("setLine(0, 1, -1, 1)", 3, () -> x.setLine(0, 1, -1, 1));
        Checks.due("setLine(0, -5, 5, -5)", 3, () -> x.setLine(0, -5, 5, -5));
        Checks.due("setLine(0, 1, -1, 2)", 0, () -> x.setLine(0, 1, -1, 2));
        x.movePoint(2, 3, 6, 8);
        Checks.due("setLine(0, 1, -1, 1) with a last control point off it", 2, () -> x.setLine(0, 1, -1, 1));
        x.movePoint(1, 0, 1, 1);
        Checks.due("setLine(0, 1, -1, 1) with a first control point off it", 1, () -> x.setLine(0, 1, -1, 1));
        CurveMeetings none = Texts.of("line l 1 1 1;");
        Checks.due("setLine without curves", 0, () -> none.setLine(0, 1, -1, 0));
        StringBuilder text = new StringBuilder();
        for (char name = 'a'; name < 'i'; name++) {
            text.append("curve ").append(name).append(" 0 0 1 5 5 1;");
        }
        CurveMeetings all = Texts.of(text + "line l 1 1 1;");
        Checks.due("setLine with eight curves on it", 8, () -> all.setLine(0, 1, -1, 0));
    }

    private static void settingSettings() {
        CurveMeetings x = sample();
        Checks.says(55, "BAD_VALUE if setting is neither or value is out of its range");
        refusedAt("setSetting(LIMIT, value)", new int[] {MIN, -1, 0, 13, 14, MAX}, -2, (y, k) -> y.setSetting(0, k));
        refusedAt("setSetting(DEPTH, value)", new int[] {MIN, -1, 0, 7, 8, 12, MAX}, -2, (y, k) -> y.setSetting(1, k));
        refusedAt("setSetting(setting, 1)", new int[] {MIN, -2, -1, 2, 3, MAX}, -2, (y, k) -> y.setSetting(k, 1));
        refusedAt("setSetting(setting, 0)", new int[] {-1, 2}, -2, (y, k) -> y.setSetting(k, 0));
        Checks.says(55, "Returns the previous value");
        Checks.dueAt("setSetting(LIMIT, value)", new int[] {1, 2, 11, 12, 12, 10}, new long[] {10, 1, 2, 11, 12, 12}, k -> x.setSetting(0, k));
        Checks.dueAt("setSetting(DEPTH, value)", new int[] {1, 2, 5, 6, 6}, new long[] {4, 1, 2, 5, 6}, k -> x.setSetting(1, k));
        Checks.due("getSetting(LIMIT)", 10, () -> x.getSetting(0));
        Checks.due("getSetting(DEPTH)", 6, () -> x.getSetting(1));
    }

    private static void sameValues() {
        CurveMeetings x = sample();
        String before = shown(x);
        LongSupplier[] changes = {() -> x.movePoint(0, 1, 20, 20), () -> x.setWeight(1, 2, 3), () -> x.setLine(1, 0, 1, -10), () -> x.setSetting(0, 10), () -> x.setSetting(1, 4)};
        int[] promises = {49, 50, 54, 55, 55};
        long[] answers = {2020, 3, 0, 10, 4};
        for (int k = 0; k < changes.length; k++) {
            Checks.says(promises[k], "Setting the value that it already has is also a change; likewise above");
            Checks.due("change " + k, answers[k], changes[k]);
            Checks.due("undoCount()", k + 1, () -> x.undoCount());
        }
        CurveMeetings round = Texts.of("curve a 5 5 1 5 5 1;");
        Checks.says(53, "Setting the value that it already has is also a change; likewise above");
        Checks.due("reverse of a curve that is its own reverse", 1, () -> round.reverse(0));
        Checks.due("undoCount()", 1, () -> round.undoCount());
        Checks.says(56, "Undoes the latest change that is kept, if it changed no value as well");
        for (int left = 4; left >= 0; left--) {
            Checks.due("undo()", left, () -> x.undo());
        }
        Checks.due("the figure then", true, () -> shown(x).equals(before));
    }

    // ---- calls that are refused ----

    private static final Call[] REFUSED = {(x, k) -> x.movePoint(0, 2, 0, 0), (x, k) -> x.movePoint(0, 0, 21, 0), (x, k) -> x.setWeight(0, 2, 1),
        (x, k) -> x.setWeight(0, 0, 4), (x, k) -> x.insertPoint(4, 0, 0, 0, 1), (x, k) -> x.insertPoint(0, 3, 0, 0, 1), (x, k) -> x.insertPoint(2, 0, 0, 0, 1),
        (x, k) -> x.dropPoint(0, 2), (x, k) -> x.dropPoint(0, 0), (x, k) -> x.reverse(4), (x, k) -> x.setLine(2, 1, 1, 1), (x, k) -> x.setLine(0, 0, 0, 1),
        (x, k) -> x.setSetting(2, 1), (x, k) -> x.setSetting(0, 13), (x, k) -> x.load(801), (x, k) -> x.load(-1), (x, k) -> x.getSetting(2),
        (x, k) -> x.control(0, 2, 0), (x, k) -> x.hullCorner(0, 9), (x, k) -> x.meetingNumber(0, 0, 0, 5), (x, k) -> x.rootsIfMoved(0, 0, 0, 0, 21)};
    private static final long[] CODES = {-1, -2, -1, -2, -1, -2, -3, -1, -3, -1, -1, -2, -2, -2, -2, -2, -2, -1, -1, -2, -2};

    /** After each of them the change before it is still the latest one. */
    private static void refusedCalls() {
        Checks.says(56, "A call that returns an error code .. changes nothing");
        Checks.due("as many calls as codes", CODES.length, () -> REFUSED.length);
        for (int k = 0; k < REFUSED.length; k++) {
            refused("refused call " + k, CODES[k], REFUSED[k]);
        }
        Checks.says(56, "A refused change takes no place among the ten");
        CurveMeetings x = sample();
        for (int k = 1; k <= 10; k++) {
            x.setSetting(0, k);
        }
        for (Call call : REFUSED) {
            call.of(x, 0);
        }
        for (int left = 9; left >= 0; left--) {
            int due = left == 0 ? 10 : left;
            Checks.due("undo() of ten", left, () -> x.undo());
            Checks.due("getSetting(LIMIT) with " + left + " left", due, () -> x.getSetting(0));
        }
    }

    private static final Call[] THROWING = {(x, k) -> x.degree(4), (x, k) -> x.control(4, 0, 0), (x, k) -> x.lineNumber(2, 0), (x, k) -> x.cellControl(4, 0, 0, 0, 0),
        (x, k) -> x.placeNumerator(-1, 0, 0, 0), (x, k) -> x.placeDenominator(4, 0, 0, 0), (x, k) -> x.boxSide(4, 0, 0, 0), (x, k) -> x.isStraight(4) ? 1 : 0,
        (x, k) -> x.hullSize(-1), (x, k) -> x.hullCorner(4, 0), (x, k) -> x.coefficient(0, 2, 0), (x, k) -> x.signChanges(4, 0, 0, 0), (x, k) -> x.isOn(0, 2) ? 1 : 0,
        (x, k) -> x.sideOf(0, -1, 0), (x, k) -> x.rootCount(4, 0), (x, k) -> x.rootsOf(0, 2, 0), (x, k) -> x.rootKind(4, 0, 0), (x, k) -> x.rootDepth(0, 2, 0),
        (x, k) -> x.rootCell(4, 0, 0), (x, k) -> x.refined(0, 2, 0, 0), (x, k) -> x.isTangent(4, 0) ? 1 : 0, (x, k) -> x.linesMet(4), (x, k) -> x.curvesMet(2),
        (x, k) -> x.bandLow(4), (x, k) -> x.bandHigh(-1), (x, k) -> x.firstLeft(0, 4), (x, k) -> x.lastLeft(4, 0), (x, k) -> x.pairCount(0, 4),
        (x, k) -> x.pair(4, 0, 0), (x, k) -> x.meetingCount(0, 4), (x, k) -> x.meetingOf(4, 0, 0, 0), (x, k) -> x.meetingNumber(0, 4, 0, 0),
        (x, k) -> x.sameness(4, 0), (x, k) -> x.sharedEnds(0, 4), (x, k) -> x.curvesNear(4), (x, k) -> x.rootsIfMoved(0, 2, 0, 0, 0)};

    private static void refusedQuestions() {
        Checks.says(56, "A call that .. throws an exception changes nothing");
        for (int k = 0; k < THROWING.length; k++) {
            refused("question " + k, Checks.THROWS, THROWING[k]);
        }
        Checks.says(3, "questions leave the buffer as it is");
        CurveMeetings x = sample();
        Texts.feed(x, "set depth 1;");
        for (Call call : THROWING) {
            Checks.due("question", Checks.THROWS, () -> call.of(x, 0));
        }
        for (Call call : REFUSED) {
            call.of(x, 0);
        }
        Checks.due("feed after questions", 40, () -> x.feed(0x20202020, 0x20202020, 0x20202020, 0x20202020, 0x20202020));
        Checks.due("load after questions", 1, () -> x.load(40));
    }

    // ---- promise 56 ----

    private static void undoing() {
        Checks.says(56, "A change can be undone; everything is then as before it");
        Call[] changes = {(x, k) -> x.movePoint(3, 1, 0, 20), (x, k) -> x.setWeight(2, 3, 3), (x, k) -> x.insertPoint(1, 3, 20, 0, 3),
            (x, k) -> x.insertPoint(0, 0, 20, 0, 3), (x, k) -> x.dropPoint(2, 3), (x, k) -> x.dropPoint(1, 0), (x, k) -> x.reverse(2),
            (x, k) -> x.setLine(1, -5, 5, 200), (x, k) -> x.setSetting(0, 12), (x, k) -> x.setSetting(1, 6)};
        String first = shown(sample());
        for (int last = 0; last < changes.length; last++) {
            CurveMeetings x = sample();
            for (int k = 0; k < last; k++) {
                changes[k].of(x, 0);
            }
            String before = shown(x);
            changes[last].of(x, 0);
            Checks.due("undo() of change " + last, last, () -> x.undo());
            Checks.due("the figure after undo of change " + last, true, () -> shown(x).equals(before));
            for (int left = last - 1; left >= 0; left--) {
                Checks.due("undo() to " + left, left, () -> x.undo());
            }
            Checks.due("the figure after all undos from " + last, true, () -> shown(x).equals(first));
        }
        CurveMeetings x = sample();
        Checks.says(56, "NOT_FOUND if there is none to undo");
        refused("undo()", -1, x, () -> x.undo());
        refused("undo() again", -1, x, () -> x.undo());
        x.reverse(0);
        Checks.due("undo() of a change after that", 0, () -> x.undo());
        refused("undo() then", -1, x, () -> x.undo());
    }

    /** Before the change k the point stands at k - 1, from whichever change on the ten are counted. */
    private static void keepingTen() {
        Checks.says(56, "At most the 10 latest changes are kept");
        for (int changes = 8; changes <= 31; changes++) {
            CurveMeetings x = sample();
            for (int k = 1; k <= changes; k++) {
                x.movePoint(0, 0, k % 21, k / 21);
            }
            int kept = Math.min(10, changes);
            for (int undone = 1; undone <= kept; undone++) {
                int left = kept - undone;
                int at = changes - undone;
                Checks.due("undo() " + undone + " of " + changes, left, () -> x.undo());
                Checks.due("control(0, 0, 0) after undo " + undone + " of " + changes, at % 21, () -> x.control(0, 0, 0));
                Checks.due("control(0, 0, 1) after undo " + undone + " of " + changes, at / 21, () -> x.control(0, 0, 1));
            }
            refused("undo() of more than are kept of " + changes, -1, x, () -> x.undo());
        }
        CurveMeetings x = sample();
        for (int k = 1; k <= 12; k++) {
            x.setSetting(0, k);
        }
        x.undo();
        x.undo();
        x.setSetting(0, 5);
        Checks.due("undoCount() of 12 changes, two undone and one more", 9, () -> x.undoCount());
        Checks.due("undo() of the one more", 8, () -> x.undo());
        Checks.due("getSetting(LIMIT)", 10, () -> x.getSetting(0));
        Checks.due("undo()", 7, () -> x.undo());
        Checks.due("getSetting(LIMIT)", 9, () -> x.getSetting(0));
    }

    private static void undoAndLoad() {
        Checks.says(56, "changes before a load");
        CurveMeetings x = sample();
        x.reverse(0);
        Texts.feed(x, "set depth 1;");
        x.load(-1);
        Checks.due("undoCount() after BAD_VALUE", 1, () -> x.undoCount());
        x.load(3);
        Checks.due("undoCount() after an error", 1, () -> x.undoCount());
        Checks.due("undo() after an error", 0, () -> x.undo());
        control(x, 0, 0, 0, 0, 1);
        x.reverse(0);
        x.load(0);
        Checks.due("undo() after a load", -1, () -> x.undo());
        Checks.due("curveCount() then", 0, () -> x.curveCount());
        CurveMeetings fresh = new CurveMeetings();
        Checks.due("setSetting of a new object", 4, () -> fresh.setSetting(1, 1));
        Checks.due("undo() of a new object's change", 0, () -> fresh.undo());
        Checks.due("getSetting(DEPTH)", 4, () -> fresh.getSetting(1));
    }

    /** The document's first section: an object is used for at most 512 calls. Here each is, and no more. */
    private static void longUse() {
        Checks.says(53, "An object is used for at most 512 calls: changes");
        // Two feeds, a load, 505 changes, three questions and an undo.
        CurveMeetings x = Texts.of("curve a 1 2 1 3 4 2 5 6 3;");
        for (int call = 4; call < 508; call++) {
            x.reverse(0);
        }
        Checks.due("reverse, the call 508", 2, () -> x.reverse(0));
        control(x, 0, 0, 5, 6, 3);
        Checks.due("undo(), the call 512", 9, () -> x.undo());
        Checks.says(39, "An object is used for at most 512 calls: the dearest ones");
        // Four feeds, a load, and 507 questions with 4096 pairs each.
        CurveMeetings y = Texts.of("curve a 5 5 1 5 5 1 5 5 1 5 5 1; curve b 5 5 1 5 5 1 5 5 1 5 5 1; set depth 6;");
        int sum = 0;
        for (int call = 6; call < 512; call++) {
            sum += call % 2 == 0 ? y.pairCount(0, 1) : y.meetingNumber(0, 1, 0, 4);
        }
        int pairs = sum;
        Checks.due("506 calls", 506 * 4096, () -> pairs);
        Checks.due("pairCount, the call 512", 4096, () -> y.pairCount(0, 1));
        Checks.says(2, "An object is used for at most 512 calls: feed and load");
        CurveMeetings z = new CurveMeetings();
        for (int call = 1; call < 511; call += 2) {
            z.feed(0x73657420, 0x64657074, 0x6820353b, 0x20202020, 0x20202020);
            z.load(20);
        }
        Checks.due("feed, the call 511", 20, () -> z.feed(0x73657420, 0x64657074, 0x6820363b, 0x20202020, 0x20202020));
        Checks.due("load, the call 512", 1, () -> z.load(12));
    }
}
