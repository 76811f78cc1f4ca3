/** Promises 5 to 20 at their boundaries: counts, names, settings, control points, lines, cells, boxes, hulls. */
final class FigureBoundaries {
    private static final long THROWS = Checks.THROWS;
    private static final int MIN = Integer.MIN_VALUE;
    private static final int MAX = Integer.MAX_VALUE;
    private static final String POINTS = " 0 0 1 1 1 1;";

    private FigureBoundaries() {
    }

    static void run() {
        counts();
        changesKept();
        curveNames();
        lineNames();
        settings();
        curveIndexes();
        controls();
        lineNumbers();
        cellRanges();
        cellsOfOthers();
        cellsAfterChanges();
        cellNumbers();
        halving();
        placeRanges();
        lowestTerms();
        boxRanges();
        rounding();
        straight();
        hullSizes();
        hullOrder();
        hullCorners();
    }

    private static CurveMeetings full() {
        return Texts.of("line p 1 0 0; curve a 0 1 1 20 19 1; curve b 1 1 1 2 2 1; line q 2 0 0; curve c" + POINTS + "curve d" + POINTS
            + "curve e" + POINTS + "line r 3 0 0; line s 4 0 0; curve f" + POINTS + "curve g" + POINTS
            + "curve zzzzzz 7 8 1 9 10 2 11 12 3 13 14 1; line t 5 0 0; line uuuuuu -5 5 -200;");
    }

    // ---- promises 5 to 10 ----

    private static void counts() {
        StringBuilder text = new StringBuilder();
        for (int count = 0; count <= 8; count++) {
            CurveMeetings x = Texts.of(text.toString());
            int lines = Math.min(count, 6);
            int curves = count;
            Checks.says(5, "Returns 0 to 8");
            Checks.due("curveCount() of " + count, curves, () -> x.curveCount());
            Checks.says(6, "Returns 0 to 6");
            Checks.due("lineCount() of " + lines, lines, () -> x.lineCount());
            text.append("curve ").append((char) ('a' + count)).append(POINTS);
            if (count < 6) {
                text.append("line ").append((char) ('p' + count)).append(" 0 1 1;");
            }
        }
        CurveMeetings x = full();
        Texts.load(x, "line a 1 1 1;");
        Checks.says(5, "curves of an earlier text");
        Checks.due("curveCount()", 0, () -> x.curveCount());
        Texts.load(x, "curve a" + POINTS);
        Checks.says(6, "lines of an earlier text");
        Checks.due("lineCount()", 0, () -> x.lineCount());
    }

    private static void changesKept() {
        Checks.says(7, "Returns 0 to 10");
        CurveMeetings x = Texts.of("curve a" + POINTS);
        Checks.due("undoCount() before a change", 0, () -> x.undoCount());
        for (int change = 1; change <= 25; change++) {
            x.reverse(0);
            Checks.due("undoCount() after " + change, Math.min(10, change), () -> x.undoCount());
        }
        for (int left = 9; left >= 0; left--) {
            x.undo();
            Checks.due("undoCount() after undo", left, () -> x.undoCount());
        }
        x.undo();
        Checks.due("undoCount() after an undo of nothing", 0, () -> x.undoCount());
    }

    private static void curveNames() {
        Checks.says(8, "six groups of 5 bits, the first letter in the highest group; a is 1, z is 26");
        CurveMeetings x = full();
        Checks.due("curveNamed(a)", 0, () -> x.curveNamed(1 << 25));
        Checks.due("curveNamed(b)", 1, () -> x.curveNamed(2 << 25));
        Checks.due("curveNamed(g), the seventh one", 6, () -> x.curveNamed(7 << 25));
        int z = 26 << 25 | 26 << 20 | 26 << 15 | 26 << 10 | 26 << 5 | 26;
        Checks.due("curveNamed(zzzzzz), the eighth one", 7, () -> x.curveNamed(z));
        Checks.says(8, "unused groups at the end are 0");
        Checks.dueForAll("curveNamed", new int[] {0, 1, 1 << 5, 1 << 10, 1 << 15, 1 << 20, 1 << 25 | 1, 1 << 25 | 1 << 20,
            z - 1, z + 1, 26 << 25, z ^ 26, z ^ 1 << 20}, -1, k -> x.curveNamed(k));
        Checks.says(8, "bits above the six groups");
        Checks.dueForAll("curveNamed", new int[] {1 << 25 | 1 << 30, 1 << 25 | 1 << 31, 1 << 25 | 3 << 30, MIN, MAX, -1}, -1, k -> x.curveNamed(k));
        Checks.says(8, "NOT_FOUND if there is none with that name");
        Checks.due("curveNamed(h)", -1, () -> x.curveNamed(8 << 25));
        Checks.due("curveNamed(p), which is a line", -1, () -> x.curveNamed(16 << 25));
        Checks.due("curveNamed(uuuuuu), which is a line", -1, () -> x.curveNamed(Texts.letters("uuuuuu")));
        Texts.load(x, "curve b" + POINTS + "line a 1 1 1;");
        Checks.due("curveNamed(a) of an earlier text", -1, () -> x.curveNamed(1 << 25));
        Checks.due("curveNamed(b) then", 0, () -> x.curveNamed(2 << 25));
        Checks.due("curveNamed(zzzzzz) of an earlier text", -1, () -> x.curveNamed(z));
    }

    private static void lineNames() {
        Checks.says(9, "the name, given as for curveNamed");
        CurveMeetings x = full();
        int p = 16 << 25;
        Checks.due("lineNamed(p)", 0, () -> x.lineNamed(p));
        Checks.due("lineNamed(q)", 1, () -> x.lineNamed(17 << 25));
        Checks.due("lineNamed(t), the fifth one", 4, () -> x.lineNamed(20 << 25));
        Checks.due("lineNamed(uuuuuu), the sixth one", 5, () -> x.lineNamed(Texts.letters("uuuuuu")));
        Checks.dueForAll("lineNamed", new int[] {0, 16, 16 << 5, 16 << 20, p | 1, p | 1 << 20, p | 1 << 30, p | 1 << 31, MIN, MAX, -1}, -1,
            k -> x.lineNamed(k));
        Checks.says(9, "NOT_FOUND if there is none with that name");
        Checks.due("lineNamed(v)", -1, () -> x.lineNamed(22 << 25));
        Checks.due("lineNamed(a), which is a curve", -1, () -> x.lineNamed(1 << 25));
        Checks.due("lineNamed(zzzzzz), which is a curve", -1, () -> x.lineNamed(Texts.letters("zzzzzz")));
        Texts.load(x, "line a 1 1 1;");
        Checks.due("lineNamed(p) of an earlier text", -1, () -> x.lineNamed(p));
        Checks.due("lineNamed(q) of an earlier text", -1, () -> x.lineNamed(17 << 25));
        Checks.due("lineNamed(a) then", 0, () -> x.lineNamed(1 << 25));
    }

    private static void settings() {
        Checks.says(10, "LIMIT or DEPTH; BAD_VALUE if setting is neither");
        CurveMeetings x = Texts.of("set limit 12; set depth 1;");
        Checks.dueAt("getSetting", new int[] {MIN, -2, -1, 0, 1, 2, 3, MAX}, new long[] {-2, -2, -2, 12, 1, -2, -2, -2}, k -> x.getSetting(k));
    }

    // ---- promises 11 to 13 ----

    private static void curveIndexes() {
        Checks.says(11, "IndexOutOfBoundsException if curve is not a valid index");
        CurveMeetings x = full();
        Checks.dueAt("degree of eight", new int[] {MIN, -1, 0, 1, 6, 7, 8, 9, MAX}, new long[] {THROWS, THROWS, 1, 1, 1, 3, THROWS, THROWS, THROWS},
            k -> x.degree(k));
        CurveMeetings one = Texts.of("curve a" + POINTS);
        Checks.dueAt("degree of one", new int[] {-1, 0, 1}, new long[] {THROWS, 1, THROWS}, k -> one.degree(k));
        Texts.load(x, "curve a 0 0 1 1 1 1 2 2 1;");
        Checks.dueAt("degree after another text", new int[] {0, 1, 7}, new long[] {2, THROWS, THROWS}, k -> x.degree(k));
        Checks.says(11, "A curve has 2 to 4 control points");
        x.insertPoint(0, 0, 0, 0, 1);
        x.insertPoint(0, 0, 0, 0, 1);
        Checks.due("degree of four", 3, () -> x.degree(0));
        for (int k = 0; k < 4; k++) {
            x.dropPoint(0, 0);
        }
        Checks.due("degree of two", 1, () -> x.degree(0));
    }

    private static void controls() {
        CurveMeetings x = full();
        Checks.says(12, "0: x; 1: y; 2: weight; BAD_VALUE for any other what");
        Checks.dueAt("control(0, 0, what)", new int[] {MIN, -1, 0, 1, 2, 3, MAX}, new long[] {-2, -2, 0, 1, 1, -2, -2}, k -> x.control(0, 0, k));
        Checks.dueAt("control(7, 3, what)", new int[] {MIN, -1, 0, 1, 2, 3, MAX}, new long[] {-2, -2, 13, 14, 1, -2, -2}, k -> x.control(7, 3, k));
        Checks.says(12, "NOT_FOUND if there is no such control point");
        Checks.dueAt("control(7, k, 0)", new int[] {MIN, -1, 0, 1, 2, 3, 4, MAX}, new long[] {-1, -1, 7, 9, 11, 13, -1, -1}, k -> x.control(7, k, 0));
        Checks.dueAt("control(0, k, 0)", new int[] {-1, 0, 1, 2, 3}, new long[] {-1, 0, 20, -1, -1}, k -> x.control(0, k, 0));
        Checks.says(12, "(checked first)");
        Checks.dueForAll("control(7, 4, what)", new int[] {MIN, -1, 3, MAX}, -1, k -> x.control(7, 4, k));
        Checks.dueForAll("control(7, -1, what)", new int[] {MIN, -1, 3, MAX}, -1, k -> x.control(7, -1, k));
        Checks.says(12, "IndexOutOfBoundsException .. (checked first of all)");
        Checks.dueForAll("control(curve, 9, 9)", new int[] {MIN, -1, 8, 9, MAX}, THROWS, k -> x.control(k, 9, 9));
        Checks.says(12, "control points that are no longer there");
        x.dropPoint(7, 0);
        Checks.dueAt("control(7, k, 0)", new int[] {0, 2, 3}, new long[] {9, 13, -1}, k -> x.control(7, k, 0));
        x.undo();
        Checks.dueAt("control(7, k, 0)", new int[] {0, 2, 3}, new long[] {7, 11, 13}, k -> x.control(7, k, 0));
    }

    private static void lineNumbers() {
        CurveMeetings x = full();
        Checks.says(13, "0: a; 1: b; 2: c; 1000 for any other what");
        Checks.dueAt("lineNumber(5, what)", new int[] {MIN, -1, 0, 1, 2, 3, MAX}, new long[] {1000, 1000, -5, 5, -200, 1000, 1000}, k -> x.lineNumber(5, k));
        Checks.says(13, "IndexOutOfBoundsException if line is not a valid index (checked first)");
        Checks.dueAt("lineNumber(line, 0)", new int[] {MIN, -1, 0, 4, 5, 6, 7, MAX}, new long[] {THROWS, THROWS, 1, 5, -5, THROWS, THROWS, THROWS},
            k -> x.lineNumber(k, 0));
        Checks.dueForAll("lineNumber(line, 9)", new int[] {-1, 6}, THROWS, k -> x.lineNumber(k, 9));
    }

    // ---- promises 14 to 17 ----

    private static void cellRanges() {
        CurveMeetings x = full();
        Checks.says(14, "-1 if depth .. is out of range");
        Checks.dueAt("cellControl(0, depth, 0, 0, 2)", new int[] {MIN, -64, -32, -1, 0, 1, 5, 6, 7, 8, 31, 32, 33, 38, 64, MAX},
            new long[] {-1, -1, -1, -1, 1, 2, 32, 64, -1, -1, -1, -1, -1, -1, -1, -1}, k -> x.cellControl(0, k, 0, 0, 2));
        Checks.says(14, "-1 if .. cell .. is out of range");
        for (int depth = 0; depth <= 6; depth++) {
            int cells = 1 << depth;
            int at = depth;
            long scale = 1L << 3 * depth;
            Checks.dueForAll("cellControl(7, " + depth + ", cell, 0, 0)", new int[] {MIN, -cells, -1, cells, cells + 1, 2 * cells, MAX}, -1,
                k -> x.cellControl(7, at, k, 0, 0));
            Checks.due("cellControl(7, " + depth + ", 0, 0, 0)", 7 * scale, () -> x.cellControl(7, at, 0, 0, 0));
            Checks.due("cellControl(7, " + depth + ", last, 3, 0)", 13 * scale, () -> x.cellControl(7, at, cells - 1, 3, 0));
        }
        Checks.says(14, "-1 if .. k .. is out of range");
        Checks.dueAt("cellControl(7, 0, 0, k, 0)", new int[] {MIN, -1, 0, 1, 2, 3, 4, 5, MAX}, new long[] {-1, -1, 7, 18, 33, 13, -1, -1, -1},
            k -> x.cellControl(7, 0, 0, k, 0));
        Checks.dueAt("cellControl(0, 6, 63, k, 1)", new int[] {-1, 1, 2, 3}, new long[] {-1, 19 * 64, -1, -1}, k -> x.cellControl(0, 6, 63, k, 1));
        Checks.says(14, "-1 if .. what is out of range");
        Checks.dueAt("cellControl(7, 0, 0, 1, what)", new int[] {MIN, -1, 0, 1, 2, 3, MAX}, new long[] {-1, -1, 18, 20, 2, -1, -1},
            k -> x.cellControl(7, 0, 0, 1, k));
        Checks.says(14, "IndexOutOfBoundsException .. (checked first)");
        Checks.dueForAll("cellControl(curve, 9, 9, 9, 9)", new int[] {MIN, -1, 8, MAX}, THROWS, k -> x.cellControl(k, 9, 9, 9, 9));
    }

    /** Depths and cells out of range, when the cells of all curves are known. */
    private static void cellsOfOthers() {
        CurveMeetings x = Texts.of("curve a 3 4 2 20 20 1; curve b 5 6 1 7 8 3; curve c 9 10 1 11 12 1;");
        for (int curve = 2; curve >= 0; curve--) {
            int at = curve;
            Checks.says(14, "0 to 6; -1 if depth .. is out of range, beside other curves");
            Checks.due("cellControl(" + at + ", 6, 63, 1, 2)", at == 1 ? 192 : 64, () -> x.cellControl(at, 6, 63, 1, 2));
        }
        for (int depth = 7; depth <= 12; depth++) {
            int at = depth;
            int[] cells = {0, 1, 2, 63, 64, (1 << depth) - 1, 1 << depth};
            Checks.says(14, "depth: 0 to 6, beside other curves");
            Checks.dueForAll("cellControl(0, " + depth + ", cell, 0, 0)", cells, -1, k -> x.cellControl(0, at, k, 0, 0));
            Checks.says(15, "depth: 0 to 6, beside other curves");
            Checks.dueForAll("placeNumerator(0, " + depth + ", cell, 0)", cells, -1, k -> x.placeNumerator(0, at, k, 0));
            Checks.says(16, "depth: 0 to 6, beside other curves");
            Checks.dueForAll("placeDenominator(0, " + depth + ", cell, 0)", cells, -1, k -> x.placeDenominator(0, at, k, 0));
            Checks.says(17, "depth: 0 to 6, beside other curves");
            Checks.dueForAll("boxSide(0, " + depth + ", cell, 0)", cells, -1, k -> x.boxSide(0, at, k, 0));
        }
        // 1 << -1 is the least int: a depth of -1 has no such cell either.
        int[] least = {MIN, MIN + 1, -1, 0, 1, MAX};
        Checks.says(14, "depth: 0 to 6, below that");
        Checks.dueForAll("cellControl(0, -1, cell, 0, 0)", least, -1, k -> x.cellControl(0, -1, k, 0, 0));
        Checks.says(15, "depth: 0 to 6, below that");
        Checks.dueForAll("placeNumerator(0, -1, cell, 0)", least, -1, k -> x.placeNumerator(0, -1, k, 0));
        Checks.says(16, "depth: 0 to 6, below that");
        Checks.dueForAll("placeDenominator(0, -1, cell, 0)", least, -1, k -> x.placeDenominator(0, -1, k, 0));
        Checks.says(17, "depth: 0 to 6, below that");
        Checks.dueForAll("boxSide(0, -1, cell, 0)", least, -1, k -> x.boxSide(0, -1, k, 0));
        Checks.says(14, "the first number of the first curve");
        Checks.due("cellControl(0, 0, 0, 0, 0)", 6, () -> x.cellControl(0, 0, 0, 0, 0));
        Checks.says(15, "the first number of the first curve");
        Checks.due("placeNumerator(0, 0, 0, 0)", 3, () -> x.placeNumerator(0, 0, 0, 0));
        Checks.says(17, "the first number of the first curve");
        Checks.due("boxSide(0, 0, 0, 0)", 300, () -> x.boxSide(0, 0, 0, 0));
    }

    private static String points(int[][] points) {
        StringBuilder text = new StringBuilder("curve a");
        for (int[] point : points) {
            text.append(' ').append(point[0]).append(' ').append(point[1]).append(' ').append(point[2]);
        }
        return text + ";";
    }

    /** X, Y and W of the first and the last cells of the least and the greatest depth. */
    private static String cells(CurveMeetings x) {
        StringBuilder all = new StringBuilder();
        for (int depth = 0; depth <= 6; depth += 6) {
            for (int k = 0; k <= x.degree(0); k++) {
                for (int what = 0; what < 3; what++) {
                    all.append(x.cellControl(0, depth, 0, k, what)).append(' ').append(x.cellControl(0, depth, (1 << depth) - 1, k, what)).append(' ');
                }
            }
        }
        return all.toString();
    }

    /** Cells that were asked for before a change are those of the curve as it was: each number of it counts. */
    private static void cellsAfterChanges() {
        int[][] places = {{0, 0, 1}, {20, 0, 3}, {0, 13, 2}, {7, 5, 2}};
        for (int size = 2; size <= 4; size++) {
            for (int k = 0; k < size; k++) {
                int at = k;
                int[][] moved = new int[size][];
                int[][] weighed = new int[size][];
                for (int j = 0; j < size; j++) {
                    moved[j] = places[j].clone();
                    weighed[j] = places[j].clone();
                }
                moved[k][0] += moved[k][0] < 20 ? 1 : -1;
                weighed[k][2] = 4 - weighed[k][2];
                weighed[k][2] = weighed[k][2] == places[k][2] ? 1 : weighed[k][2];
                String before = points(java.util.Arrays.copyOf(places, size));
                String want = cells(Texts.of(before));
                String afterMove = cells(Texts.of(points(moved)));
                String afterWeight = cells(Texts.of(points(weighed)));
                int x = moved[k][0];
                int weight = weighed[k][2];
                CurveMeetings y = Texts.of(before);
                Checks.says(14, "the cells of a curve that has been changed");
                Checks.due("cells of " + before, true, () -> cells(y).equals(want));
                y.movePoint(0, k, x, places[k][1]);
                Checks.due("cells after a move of " + at + " in " + before, true, () -> cells(y).equals(afterMove));
                y.undo();
                Checks.due("cells after undo of a move of " + at + " in " + before, true, () -> cells(y).equals(want));
                y.setWeight(0, k, weight);
                Checks.due("cells after a weight of " + at + " in " + before, true, () -> cells(y).equals(afterWeight));
            }
        }
        Checks.says(14, "the cells of another text's curve");
        String other = "curve a 3 4 2 9 2 1;";
        CurveMeetings y = Texts.of("curve a 1 2 3 4 5 3;");
        cells(y);
        Texts.load(y, other);
        String want = cells(Texts.of(other));
        Checks.due("cells of a curve with all numbers different", true, () -> cells(y).equals(want));
    }

    private static void cellNumbers() {
        Checks.says(14, "the numbers of a cell times 2^(n * d) are integers, at their greatest and least");
        CurveMeetings x = Texts.of("curve a 20 0 3 20 0 3 20 0 3 20 0 3; curve b 20 0 3 20 0 3; curve c 0 20 1 0 20 1 0 20 1; curve d 0 0 1 20 20 3;");
        for (int cell : new int[] {0, 31, 32, 63}) {
            for (int k = 0; k < 4; k++) {
                int at = k;
                Checks.due("cellControl(0, 6, " + cell + ", " + k + ", 0)", 60L << 18, () -> x.cellControl(0, 6, cell, at, 0));
                Checks.due("cellControl(0, 6, " + cell + ", " + k + ", 1)", 0, () -> x.cellControl(0, 6, cell, at, 1));
                Checks.due("cellControl(0, 6, " + cell + ", " + k + ", 2)", 3L << 18, () -> x.cellControl(0, 6, cell, at, 2));
            }
        }
        Checks.due("cellControl(1, 6, 63, 1, 0)", 60L << 6, () -> x.cellControl(1, 6, 63, 1, 0));
        Checks.due("cellControl(2, 6, 63, 2, 1)", 20L << 12, () -> x.cellControl(2, 6, 63, 2, 1));
        Checks.due("cellControl(2, 6, 63, 2, 2)", 1L << 12, () -> x.cellControl(2, 6, 63, 2, 2));
        // X is 60 t, W is 1 + 2 t.
        for (int cell = 0; cell < 64; cell++) {
            int at = cell;
            Checks.due("cellControl(3, 6, " + cell + ", 0, 0)", 60L * cell, () -> x.cellControl(3, 6, at, 0, 0));
            Checks.due("cellControl(3, 6, " + cell + ", 1, 0)", 60L * (cell + 1), () -> x.cellControl(3, 6, at, 1, 0));
            Checks.due("cellControl(3, 6, " + cell + ", 0, 2)", 64 + 2L * cell, () -> x.cellControl(3, 6, at, 0, 2));
        }
    }

    /** The ends of a cell are places of the curve; X is 20 t^2 and 20 t^3, W is 1. */
    private static void halving() {
        Checks.says(14, "the first half has the first numbers of the rows 0 to n, the second half the last numbers of the rows n to 0");
        CurveMeetings x = Texts.of("curve a 0 0 1 0 0 1 20 0 1; curve b 0 0 1 0 0 1 0 0 1 20 0 1; curve c 3 0 1 5 0 3;");
        Checks.dueAt("cellControl(0, 1, 0, k, 0)", new int[] {0, 1, 2}, new long[] {0, 0, 20}, k -> x.cellControl(0, 1, 0, k, 0));
        Checks.dueAt("cellControl(0, 1, 1, k, 0)", new int[] {0, 1, 2}, new long[] {20, 40, 80}, k -> x.cellControl(0, 1, 1, k, 0));
        Checks.dueAt("cellControl(1, 1, 0, k, 0)", new int[] {0, 1, 2, 3}, new long[] {0, 0, 0, 20}, k -> x.cellControl(1, 1, 0, k, 0));
        Checks.dueAt("cellControl(1, 1, 1, k, 0)", new int[] {0, 1, 2, 3}, new long[] {20, 40, 80, 160}, k -> x.cellControl(1, 1, 1, k, 0));
        Checks.dueAt("cellControl(2, 1, 0, k, 0)", new int[] {0, 1}, new long[] {6, 18}, k -> x.cellControl(2, 1, 0, k, 0));
        Checks.dueAt("cellControl(2, 1, 1, k, 0)", new int[] {0, 1}, new long[] {18, 30}, k -> x.cellControl(2, 1, 1, k, 0));
        for (int cell = 0; cell < 64; cell++) {
            long from = cell;
            long to = cell + 1;
            int at = cell;
            Checks.due("cellControl(0, 6, " + cell + ", 0, 0)", 20 * from * from, () -> x.cellControl(0, 6, at, 0, 0));
            Checks.due("cellControl(0, 6, " + cell + ", 1, 0)", 20 * from * to, () -> x.cellControl(0, 6, at, 1, 0));
            Checks.due("cellControl(0, 6, " + cell + ", 2, 0)", 20 * to * to, () -> x.cellControl(0, 6, at, 2, 0));
            Checks.due("cellControl(1, 6, " + cell + ", 1, 0)", 20 * from * from * to, () -> x.cellControl(1, 6, at, 1, 0));
            Checks.due("cellControl(1, 6, " + cell + ", 3, 0)", 20 * to * to * to, () -> x.cellControl(1, 6, at, 3, 0));
        }
    }

    private static void placeRanges() {
        // x is 20 t and y is 20 - 20 t, t being cell / 2^depth.
        CurveMeetings x = Texts.of("curve a 0 20 1 20 0 1; curve b 0 20 1 10 10 1 20 0 1;");
        int[] depths = {MIN, -64, -1, 0, 1, 2, 3, 6, 7, 31, 32, 33, 64, MAX};
        Checks.says(15, "-1 if depth .. is out of range");
        Checks.dueAt("placeNumerator(0, depth, 1, 0)", depths, new long[] {-1, -1, -1, 20, 10, 5, 5, 5, -1, -1, -1, -1, -1, -1}, k -> x.placeNumerator(0, k, 1, 0));
        Checks.says(16, "-1 if depth .. is out of range");
        Checks.dueAt("placeDenominator(0, depth, 1, 0)", depths, new long[] {-1, -1, -1, 1, 1, 1, 2, 16, -1, -1, -1, -1, -1, -1}, k -> x.placeDenominator(0, k, 1, 0));
        for (int depth = 0; depth <= 6; depth++) {
            int cells = 1 << depth;
            int at = depth;
            int[] wrong = {MIN, -1, cells + 1, 2 * cells + 1, MAX};
            Checks.says(15, "cell: 0 to 2 to the power of depth; -1 if .. cell is out of range");
            Checks.dueForAll("placeNumerator(1, " + depth + ", cell, 0)", wrong, -1, k -> x.placeNumerator(1, at, k, 0));
            Checks.dueAt("placeNumerator(1, " + depth + ", cell, 0)", new int[] {0, cells}, new long[] {0, 20}, k -> x.placeNumerator(1, at, k, 0));
            Checks.dueAt("placeNumerator(1, " + depth + ", cell, 1)", new int[] {0, cells}, new long[] {20, 0}, k -> x.placeNumerator(1, at, k, 1));
            Checks.says(16, "cell: 0 to 2 to the power of depth; -1 if .. cell is out of range");
            Checks.dueForAll("placeDenominator(1, " + depth + ", cell, 0)", wrong, -1, k -> x.placeDenominator(1, at, k, 0));
            Checks.dueAt("placeDenominator(1, " + depth + ", cell, 0)", new int[] {0, cells}, new long[] {1, 1}, k -> x.placeDenominator(1, at, k, 0));
        }
        int[] axes = {MIN, -1, 0, 1, 2, MAX};
        Checks.says(15, "0: x; any other value: y");
        Checks.dueAt("placeNumerator(0, 3, 1, axis)", axes, new long[] {35, 35, 5, 35, 35, 35}, k -> x.placeNumerator(0, 3, 1, k));
        Checks.dueAt("placeNumerator(0, 6, 64, axis)", axes, new long[] {0, 0, 20, 0, 0, 0}, k -> x.placeNumerator(0, 6, 64, k));
        Checks.says(16, "0: x; any other value: y");
        CurveMeetings y = Texts.of("curve a 1 3 1 2 20 1;");
        Checks.dueAt("placeDenominator(0, 1, 1, axis)", axes, new long[] {2, 2, 2, 2, 2, 2}, k -> y.placeDenominator(0, 1, 1, k));
        y.movePoint(0, 1, 3, 20);
        Checks.dueAt("placeDenominator(0, 1, 1, axis)", axes, new long[] {2, 2, 1, 2, 2, 2}, k -> y.placeDenominator(0, 1, 1, k));
        Checks.says(15, "IndexOutOfBoundsException .. (checked first)");
        Checks.dueForAll("placeNumerator(curve, 9, 9, 0)", new int[] {MIN, -1, 2, MAX}, THROWS, k -> x.placeNumerator(k, 9, 9, 0));
        Checks.says(16, "IndexOutOfBoundsException .. (checked first)");
        Checks.dueForAll("placeDenominator(curve, 9, 9, 0)", new int[] {MIN, -1, 2, MAX}, THROWS, k -> x.placeDenominator(k, 9, 9, 0));
    }

    private static void lowestTerms() {
        // X is 20 t + 40 t^2 or so: the place at t = k / 64 of a curve with weights has great numbers above and below.
        CurveMeetings x = Texts.of("curve zero 0 0 1 0 0 3 0 0 2; curve c 20 20 3 20 20 2 20 20 1; curve d 0 1 1 20 0 3; curve e 19 0 3 20 0 1 20 0 1 20 0 1;");
        for (int cell : new int[] {0, 1, 32, 63, 64}) {
            Checks.says(15, "the numerator .. in lowest terms");
            Checks.due("placeNumerator(0, 6, " + cell + ", 0), which is 0", 0, () -> x.placeNumerator(0, 6, cell, 0));
            Checks.due("placeNumerator(1, 6, " + cell + ", 1), which is 20", 20, () -> x.placeNumerator(1, 6, cell, 1));
            Checks.says(16, "the denominator, greater than 0, in lowest terms");
            Checks.due("placeDenominator(0, 6, " + cell + ", 0) of 0", 1, () -> x.placeDenominator(0, 6, cell, 0));
            Checks.due("placeDenominator(1, 6, " + cell + ", 1) of 20", 1, () -> x.placeDenominator(1, 6, cell, 1));
        }
        // At t = 1/64: X = 60 / 64, W = 66 / 64; Y = 63 / 64.
        Checks.says(15, "the numerator .. in lowest terms");
        Checks.due("placeNumerator(2, 6, 1, 0)", 10, () -> x.placeNumerator(2, 6, 1, 0));
        Checks.due("placeNumerator(2, 6, 1, 1)", 21, () -> x.placeNumerator(2, 6, 1, 1));
        // With s = 63^3: X = 20 * 64^3 + 37 s, W = 64^3 + 2 s, both to be divided by 262144.
        Checks.due("placeNumerator(3, 6, 1, 0)", 20L * 262144 + 37L * 250047, () -> x.placeNumerator(3, 6, 1, 0));
        Checks.says(16, "the denominator, greater than 0, in lowest terms");
        Checks.due("placeDenominator(2, 6, 1, 0)", 11, () -> x.placeDenominator(2, 6, 1, 0));
        Checks.due("placeDenominator(2, 6, 1, 1)", 22, () -> x.placeDenominator(2, 6, 1, 1));
        Checks.due("placeDenominator(3, 6, 1, 0)", 262144 + 2L * 250047, () -> x.placeDenominator(3, 6, 1, 0));
    }

    private static void boxRanges() {
        CurveMeetings x = Texts.of("curve a 0 20 1 20 0 1; curve b 1 2 1 3 4 1; curve c 0 0 1 20 20 3;");
        Checks.says(17, "-1 if depth .. is out of range");
        Checks.dueAt("boxSide(0, depth, 0, 2)", new int[] {MIN, -64, -1, 0, 1, 5, 6, 7, 31, 32, 33, 64, MAX},
            new long[] {-1, -1, -1, 2000, 1000, 63, 32, -1, -1, -1, -1, -1, -1}, k -> x.boxSide(0, k, 0, 2));
        Checks.says(17, "-1 if .. cell .. is out of range");
        for (int depth = 0; depth <= 6; depth++) {
            int at = depth;
            int cells = 1 << depth;
            Checks.dueForAll("boxSide(0, " + depth + ", cell, 0)", new int[] {MIN, -1, cells, cells + 1, MAX}, -1, k -> x.boxSide(0, at, k, 0));
            Checks.due("boxSide(0, " + depth + ", 0, 3)", 2000, () -> x.boxSide(0, at, 0, 3));
            Checks.due("boxSide(0, " + depth + ", last, 2)", 2000, () -> x.boxSide(0, at, cells - 1, 2));
            Checks.due("boxSide(0, " + depth + ", last, 1)", 0, () -> x.boxSide(0, at, cells - 1, 1));
        }
        Checks.says(17, "-1 if .. side is out of range");
        Checks.dueAt("boxSide(1, 0, 0, side)", new int[] {MIN, -1, 0, 1, 2, 3, 4, 5, MAX}, new long[] {-1, -1, 100, 200, 300, 400, -1, -1, -1},
            k -> x.boxSide(1, 0, 0, k));
        Checks.says(17, "IndexOutOfBoundsException .. (checked first)");
        Checks.dueForAll("boxSide(curve, 9, 9, 9)", new int[] {MIN, -1, 3, MAX}, THROWS, k -> x.boxSide(k, 9, 9, 9));
    }

    private static void rounding() {
        Checks.says(17, "rounded down for the sides 0 and 1, and up for the sides 2 and 3");
        CurveMeetings x = Texts.of("curve a 0 20 1 20 0 1; curve c 0 20 1 20 0 3; curve p 7 9 2 7 9 2; curve s 0 20 1 10 10 1 20 0 1 13 7 1;");
        // From 5/2 to 5 and from 5/16 to 5/8: hundredths that are whole stay as they are.
        Checks.dueAt("boxSide(0, 3, 1, side)", new int[] {0, 1, 2, 3}, new long[] {250, 1500, 500, 1750}, k -> x.boxSide(0, 3, 1, k));
        Checks.dueAt("boxSide(0, 6, 1, side)", new int[] {0, 1, 2, 3}, new long[] {31, 1937, 63, 1969}, k -> x.boxSide(0, 6, 1, k));
        // x from 60/10 to 20 * 9 / 14 at depth 3; y is 20 - x.
        Checks.dueAt("boxSide(1, 3, 1, side)", new int[] {0, 1, 2, 3}, new long[] {600, 1000, 1000, 1400}, k -> x.boxSide(1, 3, 1, k));
        Checks.dueAt("boxSide(1, 3, 2, side)", new int[] {0, 1, 2, 3}, new long[] {1000, 714, 1286, 1000}, k -> x.boxSide(1, 3, 2, k));
        Checks.dueAt("boxSide(1, 3, 3, side)", new int[] {0, 1, 2, 3}, new long[] {1285, 500, 1500, 715}, k -> x.boxSide(1, 3, 3, k));
        Checks.dueAt("boxSide of a curve at one place", new int[] {0, 1, 2, 3}, new long[] {700, 900, 700, 900}, k -> x.boxSide(2, 6, 63, k));
        Checks.says(17, "the least and the greatest, though they differ by as little as they can");
        CurveMeetings near = Texts.of("curve a 4 5 1 5 6 1; curve b 5 6 1 4 5 1; curve c 0 0 1 1 0 2 0 1 3;");
        Checks.dueAt("boxSide(0, 0, 0, side)", new int[] {0, 1, 2, 3}, new long[] {400, 500, 500, 600}, k -> near.boxSide(0, 0, 0, k));
        Checks.dueAt("boxSide(1, 0, 0, side)", new int[] {0, 1, 2, 3}, new long[] {400, 500, 500, 600}, k -> near.boxSide(1, 0, 0, k));
        Checks.dueAt("boxSide(2, 0, 0, side)", new int[] {0, 1, 2, 3}, new long[] {0, 0, 100, 100}, k -> near.boxSide(2, 0, 0, k));
        Checks.says(17, "the places of its control points, not only of its ends");
        Checks.dueAt("boxSide(3, 0, 0, side)", new int[] {0, 1, 2, 3}, new long[] {0, 0, 2000, 2000}, k -> x.boxSide(3, 0, 0, k));
    }

    // ---- promises 18 to 20 ----

    private static void straight(boolean want, String points) {
        CurveMeetings x = Texts.of("curve a " + points + ";");
        Checks.due("isStraight of " + points, want, () -> x.isStraight(0));
        x.reverse(0);
        Checks.due("isStraight of " + points + " reversed", want, () -> x.isStraight(0));
    }

    private static void straight() {
        Checks.says(18, "the places of all control points .. are on one straight line");
        straight(true, "0 0 1 20 1 1");
        straight(true, "5 5 1 5 5 1");
        straight(true, "5 5 1 5 5 1 5 5 1");
        straight(true, "5 5 1 5 5 1 0 19 1");
        straight(true, "5 5 1 0 19 1 5 5 1");
        straight(true, "0 0 1 10 5 1 20 10 1");
        straight(true, "0 0 1 20 10 1 10 5 1 2 1 3");
        straight(true, "5 5 1 5 5 1 5 5 1 0 19 1");
        straight(true, "5 0 1 5 20 1 5 1 1 5 7 1");
        // The turn is 1 or -1: as little as it can be.
        straight(false, "0 0 1 20 19 1 19 18 1");
        straight(false, "0 0 1 1 1 1 20 19 1");
        straight(false, "0 0 1 10 5 1 20 10 1 19 9 1");
        straight(false, "0 0 1 0 0 1 20 19 1 19 18 1");
        straight(false, "0 0 1 20 19 1 20 19 1 19 18 1");
        straight(false, "0 0 1 20 19 1 0 0 1 19 18 1");
        straight(false, "1 1 1 0 0 1 20 19 1 0 0 1");
        straight(false, "5 5 1 5 5 1 5 6 1 6 5 1");
        Checks.says(18, "IndexOutOfBoundsException if curve is not a valid index");
        CurveMeetings x = full();
        Checks.dueAt("isStraight", new int[] {MIN, -1, 0, 7, 8, MAX}, new long[] {THROWS, THROWS, 1, 1, THROWS, THROWS}, k -> x.isStraight(k) ? 1 : 0);
    }

    private static void hull(String points, long... corners) {
        CurveMeetings x = Texts.of("curve a " + points + ";");
        Checks.due("hullSize of " + points, corners.length, () -> x.hullSize(0));
        for (int k = 0; k <= corners.length; k++) {
            int at = k;
            Checks.due("hullCorner " + k + " of " + points, k < corners.length ? corners[k] : -1, () -> x.hullCorner(0, at));
        }
    }

    private static void hullSizes() {
        Checks.says(19, "Returns 1 to 4");
        hull("5 5 1 5 5 3", 0);
        hull("5 5 1 5 5 1 5 5 1 5 5 1", 0);
        hull("5 5 1 5 6 1", 0, 1);
        hull("0 0 1 20 0 1 10 20 1", 0, 1, 2);
        hull("0 0 1 20 0 1 20 20 1 0 20 1", 0, 1, 2, 3);
        Checks.says(19, "places on its sides are no corners");
        hull("0 0 1 20 0 1 10 0 1", 0, 1);
        hull("0 0 1 20 0 1 20 20 1 10 10 1", 0, 1, 2);
        hull("0 0 1 20 0 1 20 20 1 20 10 1", 0, 1, 2);
        hull("0 0 1 10 0 1 20 0 1 20 20 1", 0, 2, 3);
        hull("0 0 1 0 1 1 0 2 1 0 3 1", 0, 3);
        hull("3 3 1 2 2 1 1 1 1 0 0 1", 3, 0);
        // As little off the side as it can be: outside, it is a corner, inside, it is not.
        hull("0 0 1 20 0 1 20 20 1 10 11 1", 0, 1, 2, 3);
        hull("0 0 1 20 0 1 20 20 1 10 9 1", 0, 1, 2);
        hull("0 0 1 20 19 1 19 18 1", 0, 2, 1);
        hull("0 0 1 1 1 1 20 19 1", 0, 2, 1);
        hull("0 0 1 20 19 1 1 1 1 19 18 1", 0, 3, 1, 2);
        Checks.says(19, "IndexOutOfBoundsException if curve is not a valid index");
        CurveMeetings x = full();
        Checks.dueAt("hullSize", new int[] {MIN, -1, 0, 7, 8, MAX}, new long[] {THROWS, THROWS, 2, 2, THROWS, THROWS}, k -> x.hullSize(k));
    }

    private static void hullOrder() {
        Checks.says(20, "the first one is that of least x (of several with the least y)");
        hull("1 0 1 0 20 1", 1, 0);
        hull("0 20 1 0 19 1 1 0 1", 1, 2, 0);
        hull("5 4 1 5 3 1 20 20 1", 1, 2, 0);
        hull("5 6 1 5 7 1 20 0 1", 0, 2, 1);
        hull("5 19 1 5 18 1 5 20 1", 1, 2);
        hull("6 0 1 5 20 1 6 1 1", 1, 0, 2);
        hull("0 0 1 0 20 1 20 20 1 20 0 1", 0, 3, 2, 1);
        hull("20 0 1 0 20 1 20 20 1 0 0 1", 3, 0, 2, 1);
        Checks.says(20, "all of the hull lies to the left .. or straight ahead");
        hull("10 0 1 20 10 1 10 20 1 0 10 1", 3, 0, 1, 2);
        hull("10 20 1 20 10 1 10 0 1 0 10 1", 3, 2, 1, 0);
        hull("0 0 1 5 5 1 20 20 1 0 20 1", 0, 2, 3);
        hull("0 0 1 20 20 1 5 5 1 20 0 1", 0, 3, 1);
        Checks.says(20, "of several control points at a corner the one with the lowest index is told");
        hull("0 0 1 0 0 1 20 0 1 20 0 1", 0, 2);
        hull("20 0 1 0 0 1 20 0 1 0 0 1", 1, 0);
        hull("5 5 1 0 0 1 5 5 1 0 0 1", 1, 0);
        hull("0 20 1 20 0 1 0 20 1 0 0 1", 3, 1, 0);
        hull("0 20 1 20 0 1 20 0 1 0 0 1", 3, 1, 0);
        hull("10 10 1 10 10 1 10 10 1 20 20 1", 0, 3);
        hull("20 20 1 10 10 1 10 10 1 10 10 1", 1, 0);
        hull("0 0 3 20 0 2 0 0 1 0 20 1", 0, 1, 3);
    }

    private static void hullCorners() {
        Checks.says(20, "NOT_FOUND if there is no such corner");
        CurveMeetings x = Texts.of("curve a 5 5 1 5 5 1; curve b 0 0 1 1 1 1 2 2 1 3 3 1; curve c 0 0 1 20 0 1 20 20 1 0 20 1;");
        int[] corners = {MIN, -1, 0, 1, 2, 3, 4, 5, MAX};
        Checks.dueAt("hullCorner of one", corners, new long[] {-1, -1, 0, -1, -1, -1, -1, -1, -1}, k -> x.hullCorner(0, k));
        Checks.dueAt("hullCorner of two", corners, new long[] {-1, -1, 0, 3, -1, -1, -1, -1, -1}, k -> x.hullCorner(1, k));
        Checks.dueAt("hullCorner of four", corners, new long[] {-1, -1, 0, 1, 2, 3, -1, -1, -1}, k -> x.hullCorner(2, k));
        Checks.due("hullCorner of two after one of four", -1, () -> x.hullCorner(1, 2));
        Checks.says(20, "IndexOutOfBoundsException .. (checked first)");
        Checks.dueForAll("hullCorner(curve, 9)", new int[] {MIN, -1, 3, MAX}, THROWS, k -> x.hullCorner(k, 9));
    }
}
