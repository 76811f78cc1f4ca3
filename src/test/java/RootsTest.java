/** Promises 21 to 34 and 48: curves and lines. */
final class RootsTest {
    private static final long THROWS = Checks.THROWS;

    private RootsTest() {
    }

    static void run() {
        coefficients();
        signChanges();
        sides();
        roots();
        refined();
        limits();
        tangents();
        sets();
        busiest();
        ifMoved();
        wrongIndexes();
    }

    /**
     * Heights above the first line: a 1 -1 1 (twice 1/2), b 4 -2 1 (twice 2/3), c 9 -3 1 (twice 3/4),
     * d 0 4 -5 3 (0, 1/2, 4/5), e 0 -2 1 0 (0, 2/3, 1), f 1 -1 1 -1 (three times 1/2), g -1 1 (1/2), h 0 0.
     */
    private static CurveMeetings heights() {
        return Texts.of("curve a 0 11 1 5 9 1 10 11 1; curve b 0 14 1 5 8 1 10 11 1; curve c 0 19 1 5 7 1 10 11 1;"
            + "curve d 0 10 1 5 14 1 10 5 1 15 13 1; curve e 0 10 1 5 8 1 10 11 1 15 10 1; curve f 0 11 1 5 9 1 10 11 1 15 9 1;"
            + "curve g 0 9 1 20 11 1; curve h 0 10 2 20 10 1; line m 0 1 -10; line n 1 0 -5;");
    }

    private static void coefficients() {
        CurveMeetings x = Texts.of("curve a 0 0 1 20 20 3 10 7 2; line l 5 5 200; line m -5 -5 -200; line n 1 -2 3;");
        Checks.dueRow(21, "coefficient(0, 0, k)", new long[] {200, 1200, 570, -100000}, k -> x.coefficient(0, 0, k));
        Checks.dueRow(21, "coefficient(0, 1, k)", new long[] {-200, -1200, -570}, k -> x.coefficient(0, 1, k));
        Checks.dueRow(21, "coefficient(0, 2, k)", new long[] {3, -51, -2}, k -> x.coefficient(0, 2, k));
        Checks.due(21, "coefficient(0, 0, -1)", -100000, () -> x.coefficient(0, 0, -1));
        Checks.due(21, "coefficient(0, 3, -1)", THROWS, () -> x.coefficient(0, 3, -1));
        Checks.due(21, "coefficient(1, 0, 0)", THROWS, () -> x.coefficient(1, 0, 0));
    }

    private static void signChanges() {
        CurveMeetings x = heights();
        Checks.dueRow(22, "signChanges(k, 0, 0, 0)", new long[] {2, 2, 2, 2, 1, 3, 1, 0}, k -> x.signChanges(k, 0, 0, 0));
        Checks.dueRow(22, "signChanges(3, 0, 1, k)", new long[] {0, 1, -1}, k -> x.signChanges(3, 0, 1, k));
        Checks.dueRow(22, "signChanges(2, 0, 1, k)", new long[] {0, 2, -1}, k -> x.signChanges(2, 0, 1, k));
        Checks.dueRow(22, "signChanges(2, 0, 2, k)", new long[] {0, 0, 0, 0, -1}, k -> x.signChanges(2, 0, 2, k));
        Checks.dueRow(22, "signChanges(1, 0, 12, 2728 + k)", new long[] {0, 0, 2, 0}, k -> x.signChanges(1, 0, 12, 2728 + k));
        Checks.due(22, "signChanges(1, 0, 12, 4096)", -1, () -> x.signChanges(1, 0, 12, 4096));
        Checks.due(22, "signChanges(1, 0, 12, -1)", -1, () -> x.signChanges(1, 0, 12, -1));
        Checks.due(22, "signChanges(1, 0, 13, 0)", -1, () -> x.signChanges(1, 0, 13, 0));
        Checks.due(22, "signChanges(1, 0, -1, 0)", -1, () -> x.signChanges(1, 0, -1, 0));
        Checks.due(22, "signChanges(1, 0, 33, 1)", -1, () -> x.signChanges(1, 0, 33, 1));
        Checks.due(22, "signChanges(8, 0, 99, 0)", THROWS, () -> x.signChanges(8, 0, 99, 0));
        CurveMeetings zeros = Texts.of("curve a 0 11 1 1 10 1 2 9 1; curve b 0 11 1 1 10 1 2 11 1; curve c 0 10 1 1 11 1 2 10 1 3 9 1;"
            + "curve d 0 9 1 1 10 1 2 10 1 3 11 1; line m 0 1 -10;");
        Checks.dueRow(22, "signChanges(k, 0, 0, 0) with zeros", new long[] {1, 0, 1, 1}, k -> zeros.signChanges(k, 0, 0, 0));
    }

    private static void sides() {
        CurveMeetings x = heights();
        Checks.dueRow(23, "isOn(k, 0)", new long[] {0, 0, 0, 0, 0, 0, 0, 1, THROWS}, k -> x.isOn(k, 0) ? 1 : 0);
        Checks.due(23, "isOn(7, 1)", 0, () -> x.isOn(7, 1) ? 1 : 0);
        Checks.due(23, "isOn(7, 2)", THROWS, () -> x.isOn(7, 2) ? 1 : 0);
        Checks.dueRow(24, "sideOf(k, 0, 0)", new long[] {1, 1, 1, 0, 0, 1, -1, 0, THROWS}, k -> x.sideOf(k, 0, 0));
        Checks.dueRow(24, "sideOf(k, 0, 1)", new long[] {1, 1, 1, 1, 0, -1, 1, 0}, k -> x.sideOf(k, 0, 1));
        Checks.dueRow(24, "sideOf(k, 0, -1)", new long[] {1, 1, 1, 1, 0, -1, 1, 0}, k -> x.sideOf(k, 0, -1));
        Checks.due(24, "sideOf(0, 2, 0)", THROWS, () -> x.sideOf(0, 2, 0));
    }

    private static void roots() {
        CurveMeetings x = heights();
        Checks.dueRow(25, "rootCount(k, 0)", new long[] {1, 1, 1, 3, 3, 1, 1, -1, THROWS}, k -> x.rootCount(k, 0));
        Checks.dueRow(25, "rootCount(k, 1)", new long[] {1, 1, 1, 1, 1, 1, 1, 1, THROWS}, k -> x.rootCount(k, 1));
        Checks.dueRow(26, "rootsOf(k, 0, EXACT)", new long[] {1, 0, 1, 2, 2, 1, 0, -1, THROWS}, k -> x.rootsOf(k, 0, 0));
        Checks.dueRow(26, "rootsOf(k, 0, ISOLATED)", new long[] {0, 0, 0, 1, 1, 0, 1, -1, THROWS}, k -> x.rootsOf(k, 0, 1));
        Checks.dueRow(26, "rootsOf(k, 0, DOUBTFUL)", new long[] {0, 1, 0, 0, 0, 0, 0, -1, THROWS}, k -> x.rootsOf(k, 0, 2));
        Checks.dueRow(26, "rootsOf(k, 0, 3)", new long[] {-2, -2, -2, -2, -2, -2, -2, -2, THROWS}, k -> x.rootsOf(k, 0, 3));
        Checks.due(26, "rootsOf(7, 0, -1)", -2, () -> x.rootsOf(7, 0, -1));
        Checks.dueRow(27, "rootKind(3, 0, k)", new long[] {0, 0, 1, -1}, k -> x.rootKind(3, 0, k));
        Checks.dueRow(28, "rootDepth(3, 0, k)", new long[] {0, 1, 1, -1}, k -> x.rootDepth(3, 0, k));
        Checks.dueRow(29, "rootCell(3, 0, k)", new long[] {0, 1, 1, -1}, k -> x.rootCell(3, 0, k));
        Checks.dueRow(27, "rootKind(4, 0, k)", new long[] {0, 1, 0, -1}, k -> x.rootKind(4, 0, k));
        Checks.dueRow(28, "rootDepth(4, 0, k)", new long[] {0, 0, 0, -1}, k -> x.rootDepth(4, 0, k));
        Checks.dueRow(29, "rootCell(4, 0, k)", new long[] {0, 0, 1, -1}, k -> x.rootCell(4, 0, k));
        Checks.dueRow(27, "rootKind(k, 0, 0)", new long[] {0, 2, 0, 0, 0, 0, 1, -1, THROWS}, k -> x.rootKind(k, 0, 0));
        Checks.dueRow(28, "rootDepth(k, 0, 0)", new long[] {1, 10, 2, 0, 0, 1, 0, -1, THROWS}, k -> x.rootDepth(k, 0, 0));
        Checks.dueRow(29, "rootCell(k, 0, 0)", new long[] {1, 682, 3, 0, 0, 1, 0, -1, THROWS}, k -> x.rootCell(k, 0, 0));
        Checks.due(27, "rootKind(3, 0, -1)", -1, () -> x.rootKind(3, 0, -1));
        Checks.due(28, "rootDepth(3, 0, -1)", -1, () -> x.rootDepth(3, 0, -1));
        Checks.due(29, "rootCell(3, 0, -1)", -1, () -> x.rootCell(3, 0, -1));
    }

    private static void refined() {
        CurveMeetings x = heights();
        Checks.dueRow(30, "refined(3, 0, 0, k)", new long[] {0, 0, 0, 0, 0, 0, 0, 0, 0, 0, 0, 0, 0, -2}, k -> x.refined(3, 0, 0, k));
        Checks.dueRow(30, "refined(3, 0, 1, k)", new long[] {0, 1, 2, 4, 8, 16, 32, 64, 128, 256, 512, 1024, 2048, -2}, k -> x.refined(3, 0, 1, k));
        Checks.dueRow(30, "refined(3, 0, 2, k)", new long[] {0, 1, 3, 6, 12, 25, 51, 102, 204, 409, 819, 1638, 3276, -2}, k -> x.refined(3, 0, 2, k));
        Checks.dueRow(30, "refined(4, 0, 1, k)", new long[] {0, 1, 2, 5, 10, 21, 42, 85, 170, 341, 682, 1365, 2730}, k -> x.refined(4, 0, 1, k));
        Checks.dueRow(30, "refined(4, 0, 2, k)", new long[] {1, 2, 4, 8, 16, 32, 64, 128, 256, 512, 1024, 2048, 4096, -2}, k -> x.refined(4, 0, 2, k));
        Checks.dueRow(30, "refined(2, 0, 0, k)", new long[] {0, 1, 3, 6, 12, 24, 48, 96, 192, 384, 768, 1536, 3072}, k -> x.refined(2, 0, 0, k));
        Checks.dueRow(30, "refined(6, 0, 0, k)", new long[] {0, 1, 2, 4, 8, 16, 32, 64, 128, 256, 512, 1024, 2048}, k -> x.refined(6, 0, 0, k));
        Checks.due(30, "refined(1, 0, 0, 12), doubtful", -1, () -> x.refined(1, 0, 0, 12));
        Checks.due(30, "refined(1, 0, 0, 13), doubtful", -1, () -> x.refined(1, 0, 0, 13));
        Checks.due(30, "refined(7, 0, 0, 1), on the line", -1, () -> x.refined(7, 0, 0, 1));
        Checks.due(30, "refined(3, 0, 3, 99)", -1, () -> x.refined(3, 0, 3, 99));
        Checks.due(30, "refined(3, 0, -1, 1)", -1, () -> x.refined(3, 0, -1, 1));
        Checks.due(30, "refined(3, 0, 0, -1)", -2, () -> x.refined(3, 0, 0, -1));
        Checks.due(30, "refined(8, 0, 0, 0)", THROWS, () -> x.refined(8, 0, 0, 0));
        Checks.due(30, "refined(0, -1, 0, 0)", THROWS, () -> x.refined(0, -1, 0, 0));
    }

    /** LIMIT tells where a search gives up. */
    private static void limits() {
        CurveMeetings x = heights();
        x.setSetting(0, 1);
        Checks.dueRow(27, "rootKind(k, 0, 0) at limit 1", new long[] {0, 2, 2, 0, 0, 0, 1}, k -> x.rootKind(k, 0, 0));
        Checks.dueRow(28, "rootDepth(k, 0, 0) at limit 1", new long[] {1, 1, 1, 0, 0, 1, 0}, k -> x.rootDepth(k, 0, 0));
        Checks.due(30, "refined(3, 0, 2, 12) at limit 1", 3276, () -> x.refined(3, 0, 2, 12));
        x.setSetting(0, 12);
        Checks.due(28, "rootDepth(1, 0, 0) at limit 12", 12, () -> x.rootDepth(1, 0, 0));
        Checks.due(29, "rootCell(1, 0, 0) at limit 12", 2730, () -> x.rootCell(1, 0, 0));
    }

    private static void tangent(boolean want, String points) {
        CurveMeetings x = Texts.of("curve a " + points + "; line m 0 1 -10; line n 0 -2 20; line f 0 1 -20;");
        Checks.due(31, "isTangent of " + points, want, () -> x.isTangent(0, 0));
        Checks.due(31, "isTangent with -2 of " + points, want, () -> x.isTangent(0, 1));
        Checks.due(31, "isTangent far away of " + points, false, () -> x.isTangent(0, 2));
    }

    private static void tangents() {
        tangent(true, "0 11 1 5 9 1 10 11 1");
        tangent(true, "0 14 1 5 8 1 10 11 1");
        tangent(true, "0 10 1 5 10 1 10 11 1");
        tangent(true, "0 11 1 5 10 1 10 10 1");
        tangent(false, "0 11 1 5 12 1 10 14 1");
        tangent(false, "0 14 1 5 12 1 10 11 1");
        tangent(false, "0 11 1 5 10 1 10 9 1");
        tangent(false, "0 11 1 5 11 1");
        tangent(false, "0 10 1 5 11 1");
        tangent(false, "0 10 1 5 10 1 3 10 2");
        tangent(false, "0 12 1 5 9 1 10 11 1");
        tangent(true, "0 12 1 5 9 2 10 12 1");
        tangent(true, "0 11 1 5 9 1 10 11 1 15 9 1");
        tangent(true, "0 18 1 5 6 1 10 12 1 15 9 1");
        tangent(true, "0 10 1 5 10 1 10 10 1 15 11 1");
        tangent(true, "0 10 1 5 10 1 10 11 1 15 9 1");
        tangent(true, "0 9 1 5 11 1 10 10 1 15 10 1");
        tangent(true, "0 2 3 5 14 1 10 12 1 15 7 1");
        tangent(true, "0 13 1 5 9 1 10 9 1 15 13 1");
        tangent(false, "0 11 1 5 12 1 10 14 1 15 18 1");
        tangent(false, "0 2 1 5 6 1 10 8 1 15 9 1");
        tangent(false, "0 9 1 5 9 1 10 10 1 15 14 1");
        tangent(false, "0 13 1 5 11 1 10 9 1 15 7 1");
        tangent(false, "0 10 1 5 14 1 10 5 1 15 13 1");
        tangent(false, "0 10 1 5 10 1 10 10 1 15 10 1");
        tangent(false, "0 19 1 5 13 1 10 11 1");
        tangent(false, "0 19 3 5 19 2 10 19 1 15 14 1");
        tangent(true, "0 11 1 5 10 1 10 10 1 15 10 1");
        CurveMeetings beyond = Texts.of("curve a 15 4 1 4 0 1 1 0 1 0 1 1; line m 4 1 0;");
        Checks.due(31, "isTangent three times at 4/3", false, () -> beyond.isTangent(0, 0));
        CurveMeetings x = heights();
        Checks.due(31, "isTangent(8, 0)", THROWS, () -> x.isTangent(8, 0) ? 1 : 0);
        Checks.due(31, "isTangent(0, 2)", THROWS, () -> x.isTangent(0, 2) ? 1 : 0);
    }

    private static void sets() {
        CurveMeetings x = Texts.of("curve a 0 11 1 5 9 1 10 11 1; curve b 0 14 1 5 8 1 10 11 1; curve c 0 10 1 20 10 1; curve d 0 0 1 20 20 1;"
            + "line m 0 1 -10; line n 1 0 -20; line o 1 0 -10; line p 1 1 200;");
        Checks.dueRow(32, "linesMet", new long[] {5, 4, 6, 7, THROWS}, k -> x.linesMet(k));
        Checks.dueRow(33, "curvesMet", new long[] {9, 12, 15, 0, THROWS}, k -> x.curvesMet(k));
        Checks.due(32, "linesMet(-1)", THROWS, () -> x.linesMet(-1));
        Checks.due(33, "curvesMet(-1)", THROWS, () -> x.curvesMet(-1));
        CurveMeetings many = heights();
        Checks.due(33, "curvesMet(0) of eight", 1 | 4 | 8 | 16 | 32 | 64, () -> many.curvesMet(0));
    }

    private static void busiest() {
        CurveMeetings none = Texts.of("curve a 0 0 1 1 1 1;");
        Checks.due(34, "busiestLine() without lines", -1, () -> none.busiestLine());
        CurveMeetings alone = Texts.of("line a 0 1 1; line b 0 1 2;");
        Checks.due(34, "busiestLine() without roots", 0, () -> alone.busiestLine());
        CurveMeetings x = Texts.of("curve a 0 0 1 10 20 1 20 0 1; curve b 0 4 1 20 5 1; line far 0 1 100; line n 1 0 -3; line o 1 0 -4; line p 0 1 -9;");
        Checks.due(34, "busiestLine() with a tie", 1, () -> x.busiestLine());
        x.setLine(2, 0, 1, -7);
        Checks.due(34, "busiestLine() with another tie", 1, () -> x.busiestLine());
        x.setLine(2, 0, 2, -9);
        Checks.due(34, "busiestLine() with three roots", 2, () -> x.busiestLine());
        CurveMeetings doubtful = Texts.of("curve b 0 14 1 5 8 1 10 11 1; curve c 0 14 1 5 8 1 10 11 1; curve d 0 10 1 20 10 1;"
            + "line m 0 1 -10; line n 1 0 -20;");
        Checks.due(34, "busiestLine() without the doubtful roots", 1, () -> doubtful.busiestLine());
    }

    private static void ifMoved() {
        CurveMeetings x = heights();
        Checks.due(48, "rootsIfMoved(0, 0, 1, 5, 10)", 0, () -> x.rootsIfMoved(0, 0, 1, 5, 10));
        Checks.due(48, "rootsIfMoved(0, 0, 1, 5, 8)", 2, () -> x.rootsIfMoved(0, 0, 1, 5, 8));
        Checks.due(48, "rootsIfMoved(0, 0, 0, 0, 10)", 2, () -> x.rootsIfMoved(0, 0, 0, 0, 10));
        Checks.due(48, "rootsIfMoved(7, 0, 1, 0, 10)", -1, () -> x.rootsIfMoved(7, 0, 1, 0, 10));
        Checks.due(48, "rootsIfMoved(7, 0, 1, 0, 11)", 1, () -> x.rootsIfMoved(7, 0, 1, 0, 11));
        Checks.due(48, "rootsIfMoved(6, 0, 0, 9, 10)", 1, () -> x.rootsIfMoved(6, 0, 0, 9, 10));
        Checks.due(48, "rootsIfMoved(6, 1, 0, 9, 10)", 0, () -> x.rootsIfMoved(6, 1, 0, 9, 10));
        Checks.due(48, "rootsIfMoved(1, 0, 1, 5, 8)", 1, () -> x.rootsIfMoved(1, 0, 1, 5, 8));
        Checks.due(48, "rootsIfMoved(0, 0, 3, 5, 8)", -2, () -> x.rootsIfMoved(0, 0, 3, 5, 8));
        Checks.due(48, "rootsIfMoved(0, 0, -1, 5, 8)", -2, () -> x.rootsIfMoved(0, 0, -1, 5, 8));
        Checks.due(48, "rootsIfMoved(0, 0, 0, 21, 8)", -2, () -> x.rootsIfMoved(0, 0, 0, 21, 8));
        Checks.due(48, "rootsIfMoved(0, 0, 0, -1, 8)", -2, () -> x.rootsIfMoved(0, 0, 0, -1, 8));
        Checks.due(48, "rootsIfMoved(0, 0, 0, 5, 21)", -2, () -> x.rootsIfMoved(0, 0, 0, 5, 21));
        Checks.due(48, "rootsIfMoved(0, 0, 0, 5, -1)", -2, () -> x.rootsIfMoved(0, 0, 0, 5, -1));
        Checks.due(48, "rootsIfMoved(8, 0, 9, 5, 8)", THROWS, () -> x.rootsIfMoved(8, 0, 9, 5, 8));
        Checks.due(48, "rootsIfMoved(0, 2, 9, 5, 8)", THROWS, () -> x.rootsIfMoved(0, 2, 9, 5, 8));
        Checks.due(48, "rootCount(0, 0) after all that", 1, () -> x.rootCount(0, 0));
        Checks.due(48, "undoCount() after all that", 0, () -> x.undoCount());
        Checks.due(48, "control(0, 1, 1) after all that", 9, () -> x.control(0, 1, 1));
        CurveMeetings heavy = Texts.of("curve a 0 11 1 5 9 3 10 11 1; line m 0 1 -10;");
        Checks.due(48, "rootsIfMoved with a weight", 2, () -> heavy.rootsIfMoved(0, 0, 1, 1, 9));
        Checks.due(48, "rootsIfMoved to 1 with the weight 3", 0, () -> heavy.rootsIfMoved(0, 0, 1, 1, 10));
        Checks.due(48, "rootsIfMoved of the weight 1", 2, () -> heavy.rootsIfMoved(0, 0, 0, 1, 12));
        Checks.due(48, "rootsIfMoved to 9 above", 1, () -> heavy.rootsIfMoved(0, 0, 0, 1, 9));
    }

    private static void wrongIndexes() {
        CurveMeetings x = heights();
        for (int[] wrong : new int[][] {{-1, 0}, {8, 0}, {0, -1}, {0, 2}, {Integer.MAX_VALUE, 0}, {0, Integer.MIN_VALUE}}) {
            int curve = wrong[0];
            int line = wrong[1];
            Checks.due(21, "coefficient with a wrong index", THROWS, () -> x.coefficient(curve, line, 9));
            Checks.due(22, "signChanges with a wrong index", THROWS, () -> x.signChanges(curve, line, 99, 0));
            Checks.due(23, "isOn with a wrong index", THROWS, () -> x.isOn(curve, line) ? 1 : 0);
            Checks.due(24, "sideOf with a wrong index", THROWS, () -> x.sideOf(curve, line, 0));
            Checks.due(25, "rootCount with a wrong index", THROWS, () -> x.rootCount(curve, line));
            Checks.due(26, "rootsOf with a wrong index", THROWS, () -> x.rootsOf(curve, line, 9));
            Checks.due(27, "rootKind with a wrong index", THROWS, () -> x.rootKind(curve, line, 0));
            Checks.due(28, "rootDepth with a wrong index", THROWS, () -> x.rootDepth(curve, line, 0));
            Checks.due(29, "rootCell with a wrong index", THROWS, () -> x.rootCell(curve, line, 0));
            Checks.due(30, "refined with a wrong index", THROWS, () -> x.refined(curve, line, 0, 99));
            Checks.due(31, "isTangent with a wrong index", THROWS, () -> x.isTangent(curve, line) ? 1 : 0);
            Checks.due(48, "rootsIfMoved with a wrong index", THROWS, () -> x.rootsIfMoved(curve, line, 9, 0, 0));
        }
    }
}
