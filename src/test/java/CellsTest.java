/** Promises 11 to 20: control points, lines, cells, places, boxes and hulls. */
final class CellsTest {
    private CellsTest() {
    }

    static void run() {
        numbers();
        cellControls();
        places();
        boxes();
        straightness();
        hulls();
    }

    private static void numbers() {
        CurveMeetings x = Texts.of("curve a 1 2 3 4 5 1; curve b 6 7 2 8 9 1 10 11 3; curve c 12 13 1 14 15 2 16 17 3 18 19 1;"
            + "line l -5 4 -200; line m 0 -3 7;");
        Checks.dueRow(11, "degree", new long[] {1, 2, 3, Checks.THROWS}, k -> x.degree(k));
        Checks.due(11, "degree(-1)", Checks.THROWS, () -> x.degree(-1));
        Checks.dueRow(12, "control(2, 3, k)", new long[] {18, 19, 1, -2}, k -> x.control(2, 3, k));
        Checks.dueRow(12, "control(1, k, 2)", new long[] {2, 1, 3, -1, -1}, k -> x.control(1, k, 2));
        Checks.dueRow(12, "control(0, k, 0)", new long[] {1, 4, -1}, k -> x.control(0, k, 0));
        Checks.due(12, "control(0, -1, 9)", -1, () -> x.control(0, -1, 9));
        Checks.due(12, "control(0, 0, -1)", -2, () -> x.control(0, 0, -1));
        Checks.due(12, "control(3, 0, 0)", Checks.THROWS, () -> x.control(3, 0, 0));
        Checks.due(12, "control(-1, 9, 9)", Checks.THROWS, () -> x.control(-1, 9, 9));
        Checks.dueRow(13, "lineNumber(0, k)", new long[] {-5, 4, -200, 1000}, k -> x.lineNumber(0, k));
        Checks.dueRow(13, "lineNumber(1, k)", new long[] {0, -3, 7, 1000}, k -> x.lineNumber(1, k));
        Checks.due(13, "lineNumber(1, -1)", 1000, () -> x.lineNumber(1, -1));
        Checks.due(13, "lineNumber(2, 0)", Checks.THROWS, () -> x.lineNumber(2, 0));
        Checks.due(13, "lineNumber(-1, 9)", Checks.THROWS, () -> x.lineNumber(-1, 9));
    }

    private static CurveMeetings bent() {
        return Texts.of("curve arch 0 0 1 10 10 1 20 0 1; curve c 0 0 1 0 20 2 20 20 3 20 0 1; curve l 0 0 1 20 20 3;");
    }

    private static void cellControls() {
        CurveMeetings x = bent();
        Checks.dueRow(14, "cellControl(0, 0, 0, k, 0)", new long[] {0, 10, 20, -1}, k -> x.cellControl(0, 0, 0, k, 0));
        Checks.dueRow(14, "cellControl(0, 1, 0, k, 0)", new long[] {0, 20, 40, -1}, k -> x.cellControl(0, 1, 0, k, 0));
        Checks.dueRow(14, "cellControl(0, 1, 1, k, 1)", new long[] {20, 20, 0, -1}, k -> x.cellControl(0, 1, 1, k, 1));
        Checks.dueRow(14, "cellControl(0, 2, 1, k, 1)", new long[] {60, 80, 80}, k -> x.cellControl(0, 2, 1, k, 1));
        Checks.dueRow(14, "cellControl(0, 2, 1, k, 0)", new long[] {80, 120, 160}, k -> x.cellControl(0, 2, 1, k, 0));
        Checks.dueRow(14, "cellControl(1, 1, 0, k, 0)", new long[] {0, 0, 120, 200, -1}, k -> x.cellControl(1, 1, 0, k, 0));
        Checks.dueRow(14, "cellControl(1, 1, 1, k, 0)", new long[] {200, 280, 320, 160}, k -> x.cellControl(1, 1, 1, k, 0));
        Checks.dueRow(14, "cellControl(1, 1, 0, k, 1)", new long[] {0, 160, 280, 300}, k -> x.cellControl(1, 1, 0, k, 1));
        Checks.dueRow(14, "cellControl(1, 1, 1, k, 1)", new long[] {300, 320, 240, 0}, k -> x.cellControl(1, 1, 1, k, 1));
        Checks.dueRow(14, "cellControl(1, 1, 0, k, 2)", new long[] {8, 12, 16, 17}, k -> x.cellControl(1, 1, 0, k, 2));
        Checks.dueRow(14, "cellControl(1, 1, 1, k, 2)", new long[] {17, 18, 16, 8}, k -> x.cellControl(1, 1, 1, k, 2));
        Checks.due(14, "cellControl(1, 6, 63, 3, 0)", 5242880, () -> x.cellControl(1, 6, 63, 3, 0));
        Checks.due(14, "cellControl(1, 6, 64, 3, 0)", -1, () -> x.cellControl(1, 6, 64, 3, 0));
        Checks.due(14, "cellControl(1, 7, 0, 0, 0)", -1, () -> x.cellControl(1, 7, 0, 0, 0));
        Checks.due(14, "cellControl(1, -1, 0, 0, 0)", -1, () -> x.cellControl(1, -1, 0, 0, 0));
        Checks.due(14, "cellControl(1, 32, 0, 0, 0)", -1, () -> x.cellControl(1, 32, 0, 0, 0));
        Checks.due(14, "cellControl(1, 1, -1, 0, 0)", -1, () -> x.cellControl(1, 1, -1, 0, 0));
        Checks.due(14, "cellControl(1, 1, 0, -1, 0)", -1, () -> x.cellControl(1, 1, 0, -1, 0));
        Checks.due(14, "cellControl(1, 1, 0, 0, 3)", -1, () -> x.cellControl(1, 1, 0, 0, 3));
        Checks.due(14, "cellControl(1, 1, 0, 0, -1)", -1, () -> x.cellControl(1, 1, 0, 0, -1));
        Checks.due(14, "cellControl(3, 9, 0, 0, 0)", Checks.THROWS, () -> x.cellControl(3, 9, 0, 0, 0));
        x.movePoint(1, 3, 10, 0);
        Checks.due(14, "cellControl(1, 6, 63, 3, 0) after a move", 2621440, () -> x.cellControl(1, 6, 63, 3, 0));
        x.undo();
        Checks.due(14, "cellControl(1, 6, 63, 3, 0) after undo", 5242880, () -> x.cellControl(1, 6, 63, 3, 0));
        Checks.due(14, "cellControl(0, 1, 0, 1, 2)", 4, () -> x.cellControl(0, 1, 0, 1, 2));
        x.setWeight(0, 0, 3);
        Checks.due(14, "cellControl(0, 1, 0, 1, 2) after a weight at the origin", 8, () -> x.cellControl(0, 1, 0, 1, 2));
    }

    private static void places() {
        CurveMeetings x = bent();
        Checks.dueRow(15, "placeNumerator(2, 3, k, 0)", new long[] {0, 6, 10, 90, 15, 50, 18, 210, 20, -1}, k -> x.placeNumerator(2, 3, k, 0));
        Checks.dueRow(16, "placeDenominator(2, 3, k, 0)", new long[] {1, 1, 1, 7, 1, 3, 1, 11, 1, -1}, k -> x.placeDenominator(2, 3, k, 0));
        Checks.dueRow(15, "placeNumerator(1, 1, 1, k)", new long[] {200, 300, 300}, k -> x.placeNumerator(1, 1, 1, k));
        Checks.dueRow(16, "placeDenominator(1, 1, 1, k)", new long[] {17, 17, 17}, k -> x.placeDenominator(1, 1, 1, k));
        Checks.dueRow(15, "placeNumerator(0, 2, k, 1)", new long[] {0, 15, 5, 15, 0, -1}, k -> x.placeNumerator(0, 2, k, 1));
        Checks.dueRow(16, "placeDenominator(0, 2, k, -7)", new long[] {1, 4, 1, 4, 1, -1}, k -> x.placeDenominator(0, 2, k, -7));
        Checks.due(15, "placeNumerator(0, 0, 1, 0)", 20, () -> x.placeNumerator(0, 0, 1, 0));
        Checks.due(15, "placeNumerator(0, 6, 64, 0)", 20, () -> x.placeNumerator(0, 6, 64, 0));
        Checks.due(15, "placeNumerator(0, 6, 65, 0)", -1, () -> x.placeNumerator(0, 6, 65, 0));
        Checks.due(15, "placeNumerator(0, 7, 0, 0)", -1, () -> x.placeNumerator(0, 7, 0, 0));
        Checks.due(15, "placeNumerator(0, 32, 1, 0)", -1, () -> x.placeNumerator(0, 32, 1, 0));
        Checks.due(15, "placeNumerator(0, -1, 0, 0)", -1, () -> x.placeNumerator(0, -1, 0, 0));
        Checks.due(15, "placeNumerator(0, 1, -1, 0)", -1, () -> x.placeNumerator(0, 1, -1, 0));
        Checks.due(15, "placeNumerator(3, 0, 0, 0)", Checks.THROWS, () -> x.placeNumerator(3, 0, 0, 0));
        Checks.due(16, "placeDenominator(0, 6, 64, 1)", 1, () -> x.placeDenominator(0, 6, 64, 1));
        Checks.due(16, "placeDenominator(0, 7, 0, 1)", -1, () -> x.placeDenominator(0, 7, 0, 1));
        Checks.due(16, "placeDenominator(0, -1, 0, 1)", -1, () -> x.placeDenominator(0, -1, 0, 1));
        Checks.due(16, "placeDenominator(0, 1, -1, 1)", -1, () -> x.placeDenominator(0, 1, -1, 1));
        Checks.due(16, "placeDenominator(-1, 0, 0, 0)", Checks.THROWS, () -> x.placeDenominator(-1, 0, 0, 0));
    }

    private static void boxes() {
        CurveMeetings x = bent();
        Checks.dueRow(17, "boxSide(1, 1, 0, k)", new long[] {0, 0, 1177, 1765, -1}, k -> x.boxSide(1, 1, 0, k));
        Checks.dueRow(17, "boxSide(1, 1, 1, k)", new long[] {1176, 0, 2000, 1778, -1}, k -> x.boxSide(1, 1, 1, k));
        Checks.dueRow(17, "boxSide(2, 3, 3, k)", new long[] {1285, 1285, 1500, 1500}, k -> x.boxSide(2, 3, 3, k));
        Checks.dueRow(17, "boxSide(2, 3, 2, k)", new long[] {1000, 1000, 1286, 1286}, k -> x.boxSide(2, 3, 2, k));
        Checks.dueRow(17, "boxSide(0, 0, 0, k)", new long[] {0, 0, 2000, 1000}, k -> x.boxSide(0, 0, 0, k));
        Checks.due(17, "boxSide(0, 0, 0, -1)", -1, () -> x.boxSide(0, 0, 0, -1));
        Checks.due(17, "boxSide(0, 7, 0, 0)", -1, () -> x.boxSide(0, 7, 0, 0));
        Checks.due(17, "boxSide(0, -1, 0, 0)", -1, () -> x.boxSide(0, -1, 0, 0));
        Checks.due(17, "boxSide(0, 3, 8, 0)", -1, () -> x.boxSide(0, 3, 8, 0));
        Checks.due(17, "boxSide(0, 3, -1, 0)", -1, () -> x.boxSide(0, 3, -1, 0));
        Checks.due(17, "boxSide(3, 9, 9, 9)", Checks.THROWS, () -> x.boxSide(3, 9, 9, 9));
        x.setWeight(1, 1, 1);
        Checks.due(17, "boxSide(1, 1, 0, 2) after setWeight", 1429, () -> x.boxSide(1, 1, 0, 2));
    }

    private static void straightness() {
        CurveMeetings x = Texts.of("curve a 0 0 1 20 13 1; curve b 10 10 1 0 0 2 20 20 1 5 5 3; curve c 0 0 1 0 0 1 1 1 1 2 3 1;"
            + "curve d 5 5 1 5 5 1 5 5 1 5 5 1; curve e 0 0 1 10 0 1 20 0 1 10 1 1; curve f 5 5 1 5 5 1 7 9 1; curve g 0 0 1 1 2 1 2 3 1;");
        Checks.dueRow(18, "isStraight", new long[] {1, 1, 0, 1, 0, 1, 0, Checks.THROWS}, k -> x.isStraight(k) ? 1 : 0);
        Checks.due(18, "isStraight(-1)", Checks.THROWS, () -> x.isStraight(-1) ? 1 : 0);
    }

    private static void hull(String points, long... corners) {
        CurveMeetings x = Texts.of("curve a" + points + ";");
        Checks.due(19, "hullSize of" + points, corners.length, () -> x.hullSize(0));
        Checks.dueRow(20, "hullCorner of" + points, corners, k -> x.hullCorner(0, k));
        Checks.due(20, "hullCorner behind the last one of" + points, -1, () -> x.hullCorner(0, corners.length));
        Checks.due(20, "hullCorner(0, -1) of" + points, -1, () -> x.hullCorner(0, -1));
    }

    private static void hulls() {
        hull(" 0 0 1 20 20 1 20 0 1 0 20 1", 0, 2, 1, 3);
        hull(" 0 20 1 20 20 1 20 0 1 0 0 1", 3, 2, 1, 0);
        hull(" 0 0 1 10 0 1 20 0 1 10 10 1", 0, 2, 3);
        hull(" 0 0 3 20 0 1 10 20 2 10 5 1", 0, 1, 2);
        hull(" 5 5 1 5 5 1 5 5 1", 0);
        hull(" 10 10 1 0 0 1 20 20 1 5 5 1", 1, 2);
        hull(" 0 0 1 20 0 1 20 0 1 0 0 1", 0, 1);
        hull(" 5 20 1 5 0 1", 1, 0);
        hull(" 0 10 1 0 0 1 20 5 1", 1, 2, 0);
        hull(" 20 5 1 20 5 1 0 0 1 0 10 1", 2, 0, 3);
        hull(" 0 0 1 5 5 1 20 20 1 20 0 1", 0, 3, 2);
        hull(" 0 0 1 20 20 1 5 5 1 0 20 1", 0, 1, 3);
        CurveMeetings x = Texts.of("curve a 0 0 1 1 1 1;");
        Checks.due(19, "hullSize(1)", Checks.THROWS, () -> x.hullSize(1));
        Checks.due(19, "hullSize(-1)", Checks.THROWS, () -> x.hullSize(-1));
        Checks.due(20, "hullCorner(1, 0)", Checks.THROWS, () -> x.hullCorner(1, 0));
        Checks.due(20, "hullCorner(-1, 9)", Checks.THROWS, () -> x.hullCorner(-1, 9));
    }
}
