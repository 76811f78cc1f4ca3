/** Promises 21 to 34 and 48 at their boundaries: curves and lines. */
final class RootBoundaries {
    private static final long THROWS = Checks.THROWS;
    private static final int MIN = Integer.MIN_VALUE;
    private static final int MAX = Integer.MAX_VALUE;
    private static final int[] ENDS = {MIN, -1, 0, 1, 2, 3, 4, MAX};

    private RootBoundaries() {
    }

    static void run() {
        coefficients();
        signChangeRanges();
        signChangeCounts();
        deepSignChanges();
        lyingOn();
        sides();
        counts();
        kinds();
        ends();
        middles();
        limits();
        deepRoots();
        rootIndexes();
        refinedDepths();
        refinedOrder();
        refinedCells();
        tangentEnds();
        tangentDegrees();
        lineSets();
        curveSets();
        busiest();
        fullFigure();
        movedRanges();
        movedRoots();
        indexes();
    }

    /** A curve whose coefficients with its only line are these: each is a weight times a height above it. */
    private static CurveMeetings cut(int... coefficients) {
        return Texts.of("curve a" + points(coefficients) + "; line m 0 1 -10;");
    }

    private static String points(int... coefficients) {
        StringBuilder points = new StringBuilder();
        for (int k = 0; k < coefficients.length; k++) {
            int weight = 1;
            while (coefficients[k] % weight != 0 || Math.abs(coefficients[k] / weight) > 10) {
                weight++;
            }
            points.append(' ').append(k).append(' ').append(10 + coefficients[k] / weight).append(' ').append(weight);
        }
        return points.toString();
    }

    private static String shown(int... coefficients) {
        return java.util.Arrays.toString(coefficients);
    }

    private static void coefficients() {
        Checks.says(21, "-100000 if k is out of range");
        for (int n = 1; n <= 3; n++) {
            CurveMeetings x = cut(java.util.Arrays.copyOf(new int[] {1, -2, 3, -4}, n + 1));
            int last = n;
            Checks.dueForAll("coefficient(0, 0, k) of degree " + n, new int[] {MIN, -1, n + 1, n + 2, MAX}, -100000, k -> x.coefficient(0, 0, k));
            Checks.due("coefficient(0, 0, 0) of degree " + n, 1, () -> x.coefficient(0, 0, 0));
            Checks.due("coefficient(0, 0, " + n + ")", n % 2 == 0 ? n + 1 : -n - 1, () -> x.coefficient(0, 0, last));
        }
        Checks.says(21, "weight * (a * x + b * y + c), at its greatest and least");
        CurveMeetings x = Texts.of("curve a 20 20 3 0 0 3 20 0 3 0 20 3; line l 5 5 200; line m -5 -5 -200; line n 5 -5 0; line o 1 1 -200;");
        Checks.dueAt("coefficient(0, 0, k)", new int[] {0, 1, 2, 3}, new long[] {1200, 600, 900, 900}, k -> x.coefficient(0, 0, k));
        Checks.dueAt("coefficient(0, 1, k)", new int[] {0, 1, 2, 3}, new long[] {-1200, -600, -900, -900}, k -> x.coefficient(0, 1, k));
        Checks.dueAt("coefficient(0, 2, k)", new int[] {0, 1, 2, 3}, new long[] {0, 0, 300, -300}, k -> x.coefficient(0, 2, k));
        Checks.dueAt("coefficient(0, 3, k)", new int[] {0, 1, 2, 3}, new long[] {-480, -600, -540, -540}, k -> x.coefficient(0, 3, k));
    }

    private static void signChangeRanges() {
        // The root is at 2/3: the cells with a sign change are 0, 1, 2, 5, 10, 21, .. 2730.
        CurveMeetings x = cut(2, -1);
        Checks.says(22, "depth: 0 to 12; -1 if depth .. is out of range");
        Checks.dueAt("signChanges(0, 0, depth, 0)", new int[] {MIN, -64, -32, -1, 0, 1, 11, 12, 13, 14, 31, 32, 33, 44, 64, MAX},
            new long[] {-1, -1, -1, -1, 1, 0, 0, 0, -1, -1, -1, -1, -1, -1, -1, -1}, k -> x.signChanges(0, 0, k, 0));
        Checks.says(22, "cell: 0 to 2 to the power of depth, minus 1; -1 if .. cell is out of range");
        for (int depth = 0; depth <= 12; depth++) {
            int at = depth;
            int cells = 1 << depth;
            int root = 2 * cells / 3;
            Checks.dueForAll("signChanges(0, 0, " + depth + ", cell)", new int[] {MIN, -cells, -1, cells, cells + 1, 2 * cells, MAX}, -1,
                k -> x.signChanges(0, 0, at, k));
            Checks.due("signChanges(0, 0, " + depth + ", first)", depth == 0 ? 1 : 0, () -> x.signChanges(0, 0, at, 0));
            Checks.due("signChanges(0, 0, " + depth + ", last)", depth < 2 ? 1 : 0, () -> x.signChanges(0, 0, at, cells - 1));
            Checks.due("signChanges(0, 0, " + depth + ", " + root + ")", 1, () -> x.signChanges(0, 0, at, root));
            if (depth > 1) {
                Checks.due("signChanges(0, 0, " + depth + ", before it)", 0, () -> x.signChanges(0, 0, at, root - 1));
                Checks.due("signChanges(0, 0, " + depth + ", behind it)", 0, () -> x.signChanges(0, 0, at, root + 1));
            }
        }
    }

    private static void signs(int changes, int... coefficients) {
        CurveMeetings x = cut(coefficients);
        Checks.due("signChanges of " + shown(coefficients), changes, () -> x.signChanges(0, 0, 0, 0));
    }

    private static void signChangeCounts() {
        Checks.says(22, "Returns 0 to 3");
        signs(0, 1, 1, 1, 1);
        signs(1, 1, 1, 1, -1);
        signs(2, 1, 1, -1, 1);
        signs(2, -1, 1, 1, -1);
        signs(3, 1, -1, 1, -1);
        signs(3, -1, 1, -1, 1);
        Checks.says(22, "two coefficients of it that are not 0, and between which there are only coefficients 0");
        signs(0, 0, 0);
        signs(0, 0, 1);
        signs(0, -1, 0);
        signs(0, 0, 0, 0, 0);
        signs(0, 1, 0, 1);
        signs(0, -1, 0, 0, -1);
        signs(1, 1, 0, -1);
        signs(1, 1, 0, 0, -1);
        signs(1, -1, 0, 1, 0);
        signs(1, 0, 1, -1, 0);
        signs(1, 0, 0, 1, -1);
        signs(2, 1, 0, -1, 1);
        signs(2, 1, -1, 0, 1);
        signs(2, 0, 1, -1, 1);
    }

    /** The greatest coefficients at the greatest depth: no sign is lost on the way. */
    private static void deepSignChanges() {
        Checks.says(22, "depth: 0 to 12, with the greatest coefficients");
        CurveMeetings x = Texts.of("curve a 20 20 3 20 20 3 20 20 3 20 20 3; curve b 20 0 3 0 20 3 20 0 3 0 20 3; line l 5 5 200; line m -5 -5 -200; line n 5 -5 0;");
        for (int cell : new int[] {0, 1, 2047, 2048, 4095}) {
            Checks.due("signChanges(0, 0, 12, " + cell + ")", 0, () -> x.signChanges(0, 0, 12, cell));
            Checks.due("signChanges(0, 1, 12, " + cell + ")", 0, () -> x.signChanges(0, 1, 12, cell));
            Checks.due("signChanges(1, 2, 12, " + cell + ")", 0, () -> x.signChanges(1, 2, 12, cell));
        }
        // 300 times (1 - 2 t)^3: three times the joint of the cells 2047 and 2048, and so inside of neither.
        Checks.due("signChanges(1, 2, 0, 0)", 3, () -> x.signChanges(1, 2, 0, 0));
        Checks.due("isOn(1, 2)", false, () -> x.isOn(1, 2));
    }

    private static void lyingOn() {
        Checks.says(23, "whether all coefficients are 0");
        on(true, 0, 0);
        on(true, 0, 0, 0);
        on(true, 0, 0, 0, 0);
        on(false, 1, 0);
        on(false, 0, -1);
        on(false, 1, 0, 0);
        on(false, 0, -1, 0);
        on(false, 0, 0, 1);
        on(false, 1, 0, 0, 0);
        on(false, 0, -1, 0, 0);
        on(false, 0, 0, 1, 0);
        on(false, 0, 0, 0, -1);
        on(false, 1, -1, 1, -1);
        on(false, 0, 1, -1, 0);
    }

    private static void on(boolean want, int... coefficients) {
        CurveMeetings x = cut(coefficients);
        Checks.due("isOn of " + shown(coefficients), want, () -> x.isOn(0, 0));
    }

    private static void sides() {
        Checks.says(24, "0 for the first end; any other value: the last one; -1, 0 or 1");
        int[] values = {MIN, -1, 0, 1, 2, MAX};
        CurveMeetings x = cut(1, 0, 0, -30);
        Checks.dueAt("sideOf of 1 and -30", values, new long[] {-1, -1, 1, -1, -1, -1}, k -> x.sideOf(0, 0, k));
        CurveMeetings y = cut(0, -1, 1);
        Checks.dueAt("sideOf of 0 and 1", values, new long[] {1, 1, 0, 1, 1, 1}, k -> y.sideOf(0, 0, k));
        CurveMeetings z = cut(-30, 0);
        Checks.dueAt("sideOf of -30 and 0", values, new long[] {0, 0, -1, 0, 0, 0}, k -> z.sideOf(0, 0, k));
    }

    /** Roots as kind, depth and cell: E is EXACT, I is ISOLATED, D is DOUBTFUL. */
    private static void roots(CurveMeetings x, String what, String... want) {
        Checks.due("rootCount of " + what, want.length, () -> x.rootCount(0, 0));
        int[] sizes = new int[3];
        for (int k = 0; k < want.length; k++) {
            String[] root = want[k].split(" ");
            int kind = "EID".indexOf(root[0]);
            int at = k;
            sizes[kind]++;
            Checks.due("rootKind " + k + " of " + what, kind, () -> x.rootKind(0, 0, at));
            Checks.due("rootDepth " + k + " of " + what, Integer.parseInt(root[1]), () -> x.rootDepth(0, 0, at));
            Checks.due("rootCell " + k + " of " + what, Integer.parseInt(root[2]), () -> x.rootCell(0, 0, at));
        }
        for (int kind = 0; kind < 3; kind++) {
            int at = kind;
            Checks.due("rootsOf " + kind + " of " + what, sizes[kind], () -> x.rootsOf(0, 0, at));
        }
        int behind = want.length;
        Checks.due("rootKind " + behind + " of " + what, -1, () -> x.rootKind(0, 0, behind));
        Checks.due("rootDepth " + behind + " of " + what, -1, () -> x.rootDepth(0, 0, behind));
        Checks.due("rootCell " + behind + " of " + what, -1, () -> x.rootCell(0, 0, behind));
    }

    private static void counts() {
        Checks.says(25, "the number of roots of all kinds");
        roots(cut(1, 1), "1 1");
        roots(cut(1, -1), "1 -1", "I 0 0");
        roots(cut(1, 1, 1, 1), "1 1 1 1");
        roots(cut(1, 1, 1, -1), "1 1 1 -1", "I 0 0");
        roots(cut(3, -5, 3), "3 -5 3", "I 1 0", "I 1 1");
        // Three roots, one of them at the middle: a cubic has no more.
        roots(cut(9, -15, 15, -9), "9 -15 15 -9", "I 1 0", "E 1 1", "I 1 1");
        roots(cut(-9, 15, -15, 9), "-9 15 -15 9", "I 1 0", "E 1 1", "I 1 1");
        // Two sign changes at most, and no root: they are gone when the cell is halved.
        roots(cut(9, -1, 9), "9 -1 9");
        roots(cut(9, -1, -1, 9), "9 -1 -1 9");
        Checks.says(25, "NOT_FOUND if the curve lies on the line");
        for (int n = 1; n <= 3; n++) {
            CurveMeetings x = cut(new int[n + 1]);
            Checks.due("rootCount of degree " + n, -1, () -> x.rootCount(0, 0));
            Checks.dueAt("rootsOf of degree " + n, new int[] {MIN, -1, 0, 1, 2, 3, MAX}, new long[] {-2, -2, -1, -1, -1, -2, -2}, k -> x.rootsOf(0, 0, k));
            Checks.dueForAll("rootKind of degree " + n, ENDS, -1, k -> x.rootKind(0, 0, k));
            Checks.dueForAll("rootDepth of degree " + n, ENDS, -1, k -> x.rootDepth(0, 0, k));
            Checks.dueForAll("rootCell of degree " + n, ENDS, -1, k -> x.rootCell(0, 0, k));
            Checks.dueForAll("refined of degree " + n, ENDS, -1, k -> x.refined(0, 0, k, 99));
            Checks.due("isTangent of degree " + n, false, () -> x.isTangent(0, 0));
            Checks.due("linesMet of degree " + n, 0, () -> x.linesMet(0));
            Checks.due("curvesMet of degree " + n, 0, () -> x.curvesMet(0));
        }
        CurveMeetings after = Texts.of("curve a" + points(0, 1, -1, 0) + "; curve b" + points(0, 0) + "; line m 0 1 -10;");
        Checks.due("rootCount(0, 0)", 3, () -> after.rootCount(0, 0));
        Checks.due("rootKind(1, 0, 0), of a curve on the line, after another one's", -1, () -> after.rootKind(1, 0, 0));
        Checks.due("linesMet(1) after that", 0, () -> after.linesMet(1));
    }

    private static void kinds() {
        Checks.says(26, "EXACT, ISOLATED or DOUBTFUL; BAD_VALUE if kind is none of these (checked first)");
        CurveMeetings x = cut(0, 1, -1, 0);
        Checks.dueAt("rootsOf", new int[] {MIN, -2, -1, 0, 1, 2, 3, MAX}, new long[] {-2, -2, -2, 2, 1, 0, -2, -2}, k -> x.rootsOf(0, 0, k));
        CurveMeetings y = cut(4, -2, 1);
        Checks.dueAt("rootsOf", new int[] {-1, 0, 1, 2, 3}, new long[] {-2, 0, 0, 1, -2}, k -> y.rootsOf(0, 0, k));
    }

    private static void ends() {
        Checks.says(27, "If the coefficient 0 is 0, there is an EXACT root at the fraction 0, in cell 0 of depth 0");
        roots(cut(0, 1), "0 1", "E 0 0");
        roots(cut(1, 2), "1 2");
        roots(cut(0, 0, 1), "0 0 1", "E 0 0");
        roots(cut(0, 0, 0, 1), "0 0 0 1", "E 0 0");
        roots(cut(0, 1, -2), "0 1 -2", "E 0 0", "I 0 0");
        roots(cut(0, 0, 1, -1), "0 0 1 -1", "E 0 0", "I 0 0");
        Checks.says(29, "for an EXACT root at the last end of the curve 1, its depth being 0");
        roots(cut(1, 0), "1 0", "E 0 1");
        roots(cut(2, 1), "2 1");
        roots(cut(1, 0, 0), "1 0 0", "E 0 1");
        roots(cut(1, 0, 0, 0), "1 0 0 0", "E 0 1");
        roots(cut(2, -1, 0), "2 -1 0", "I 0 0", "E 0 1");
        Checks.says(28, "roots at both ends, in ascending order");
        roots(cut(0, 1, 0), "0 1 0", "E 0 0", "E 0 1");
        roots(cut(0, 0, 1, 0), "0 0 1 0", "E 0 0", "E 0 1");
        roots(cut(0, 1, 0, 0), "0 1 0 0", "E 0 0", "E 0 1");
        roots(cut(0, -1, 2, 0), "0 -1 2 0", "E 0 0", "I 0 0", "E 0 1");
        // The root inside is at 1/2 itself, but the cell is not halved: it is ISOLATED.
        roots(cut(0, 1, -1, 0), "0 1 -1 0", "E 0 0", "I 0 0", "E 0 1");
    }

    private static void middles() {
        Checks.says(27, "if the first coefficient of its second half is 0, there is an EXACT root at the start of that");
        roots(cut(1, -1, 1), "1 -1 1", "E 1 1");
        roots(cut(1, -1, 1, -1), "1 -1 1 -1", "E 1 1");
        roots(cut(1, -3, 9), "1 -3 9, 1/4 twice", "E 2 1");
        roots(cut(9, -3, 1), "9 -3 1, 3/4 twice", "E 2 3");
        // (1 - 2 t) (1 - 3 t): 1/3 and, at the middle, 1/2.
        roots(cut(2, -3, 4), "2 -3 4", "I 1 0", "E 1 1");
        roots(cut(4, -3, 2), "4 -3 2", "E 1 1", "I 1 1");
        Checks.says(28, "with the second half as its cell");
        CurveMeetings x = cut(9, -3, 1);
        Checks.due("rootDepth", 2, () -> x.rootDepth(0, 0, 0));
        Checks.says(29, "with the second half as its cell");
        Checks.due("rootCell", 3, () -> x.rootCell(0, 0, 0));
    }

    private static void atLimit(int limit, String what, CurveMeetings x, String... want) {
        x.setSetting(0, limit);
        roots(x, what + " at limit " + limit, want);
    }

    private static void limits() {
        Checks.says(28, "A cell with more of them whose depth is LIMIT counts as one DOUBTFUL root");
        for (int limit = 1; limit <= 12; limit++) {
            // Twice 2/3 and twice 1/3.
            atLimit(limit, "4 -2 1", cut(4, -2, 1), "D " + limit + " " + 2 * (1 << limit) / 3);
            atLimit(limit, "1 -2 4", cut(1, -2, 4), "D " + limit + " " + (1 << limit) / 3);
        }
        CurveMeetings apart = cut(3, -5, 3);
        atLimit(1, "1/4 and 3/4", apart, "I 1 0", "I 1 1");
        CurveMeetings close = cut(3, -5, 8);
        atLimit(1, "1/3 and 3/7", close, "D 1 0");
        atLimit(2, "1/3 and 3/7", close, "D 2 1");
        atLimit(3, "1/3 and 3/7", close, "I 3 2", "I 3 3");
        atLimit(4, "1/3 and 3/7", close, "I 3 2", "I 3 3");
        CurveMeetings quarter = cut(9, -3, 1);
        atLimit(1, "3/4 twice", quarter, "D 1 1");
        atLimit(2, "3/4 twice", quarter, "E 2 3");
        atLimit(12, "3/4 twice", quarter, "E 2 3");
        CurveMeetings half = cut(1, -1, 1, -1);
        atLimit(1, "1/2 three times", half, "E 1 1");
        CurveMeetings ends = cut(0, 1);
        atLimit(1, "0", ends, "E 0 0");
        // Sign changes that come of no root are DOUBTFUL as long as LIMIT lets them be.
        CurveMeetings none = cut(3, -5, 9);
        atLimit(1, "3 -5 9", none, "D 1 0");
        atLimit(2, "3 -5 9", none, "D 2 1");
        atLimit(3, "3 -5 9", none);
        atLimit(12, "3 -5 9", none);
    }

    /** Roots that come apart at a depth of their own: below it they are one DOUBTFUL root. */
    private static void deep(String points, String line, int depth, String first, String second) {
        CurveMeetings x = Texts.of("curve a " + points + "; line m " + line + ";");
        int cell = Integer.parseInt(first.split(" ")[2]);
        Checks.says(28, "A cell with more of them whose depth is LIMIT counts as one DOUBTFUL root");
        atLimit(depth - 1, points, x, "D " + (depth - 1) + " " + cell / 2);
        atLimit(depth, points, x, first, second);
        if (depth < 12) {
            atLimit(depth + 1, points, x, first, second);
        }
        Checks.says(30, "for a depth less than that of the root, it is the cell that contains the cell of the root");
        for (int less = 0; less < depth; less++) {
            int at = less;
            Checks.due("refined(0, 0, 0, " + less + ") of " + points, cell >> depth - less, () -> x.refined(0, 0, 0, at));
            Checks.due("refined(0, 0, 1, " + less + ") of " + points, cell >> depth - less, () -> x.refined(0, 0, 1, at));
        }
        Checks.due("refined(0, 0, 0, " + depth + ") of " + points, cell, () -> x.refined(0, 0, 0, depth));
        Checks.due("refined(0, 0, 1, " + depth + ") of " + points, cell + 1, () -> x.refined(0, 0, 1, depth));
    }

    /** How deep the cells are was worked out apart from the program, with fractions. */
    private static void deepRoots() {
        deep("20 19 2 0 2 3 13 11 2", "5 4 -59", 6, "I 6 38", "E 6 39");
        deep("3 9 1 18 19 3 14 10 2 6 4 3", "5 4 -133", 7, "I 7 40", "E 7 41");
        deep("4 10 3 19 11 2 0 7 3", "5 4 -84", 7, "I 7 50", "I 7 51");
        deep("14 16 2 5 13 3 11 0 3 11 1 1", "5 4 -58", 8, "I 8 238", "I 8 239");
        deep("14 5 1 1 12 3 10 19 2 9 12 3", "5 4 -71", 12, "I 12 764", "I 12 765");
        deep("10 2 1 13 2 2 19 18 1 12 19 1", "5 4 -140", 12, "I 12 3730", "I 12 3731");
        Checks.says(28, "roots that would come apart at the depth 13 only");
        atLimit(12, "70 19 -59 72", Texts.of("curve a 14 8 2 10 9 1 0 2 1 11 9 3; line m 5 4 -67;"), "D 12 2429");
        Checks.says(30, "the greatest depth of a root that is known at another one");
        CurveMeetings exact = Texts.of("curve a 3 9 1 18 19 3 14 10 2 6 4 3; line m 5 4 -133;");
        Checks.due("refined(0, 0, 0, 12) of 40 at depth 7", 1285, () -> exact.refined(0, 0, 0, 12));
        Checks.due("refined(0, 0, 1, 12) of 41 at depth 7", 1312, () -> exact.refined(0, 0, 1, 12));
        CurveMeetings isolated = Texts.of("curve a 14 16 2 5 13 3 11 0 3 11 1 1; line m 5 4 -58;");
        Checks.due("refined(0, 0, 0, 12) of 238 at depth 8", 3813, () -> isolated.refined(0, 0, 0, 12));
        Checks.due("refined(0, 0, 1, 12) of 239 at depth 8", 3827, () -> isolated.refined(0, 0, 1, 12));
    }

    private static void rootIndexes() {
        CurveMeetings x = cut(0, -1, 2, 0);
        Checks.says(27, "NOT_FOUND if there is no such root");
        Checks.dueAt("rootKind", ENDS, new long[] {-1, -1, 0, 1, 0, -1, -1, -1}, k -> x.rootKind(0, 0, k));
        Checks.says(28, "NOT_FOUND if there is no such root");
        Checks.dueAt("rootDepth", ENDS, new long[] {-1, -1, 0, 0, 0, -1, -1, -1}, k -> x.rootDepth(0, 0, k));
        Checks.says(29, "NOT_FOUND if there is no such root");
        Checks.dueAt("rootCell", ENDS, new long[] {-1, -1, 0, 0, 1, -1, -1, -1}, k -> x.rootCell(0, 0, k));
        CurveMeetings none = cut(1, 2);
        Checks.says(27, "no roots at all");
        Checks.dueForAll("rootKind", ENDS, -1, k -> none.rootKind(0, 0, k));
        Checks.says(28, "no roots at all");
        Checks.dueForAll("rootDepth", ENDS, -1, k -> none.rootDepth(0, 0, k));
        Checks.says(29, "no roots at all");
        Checks.dueForAll("rootCell", ENDS, -1, k -> none.rootCell(0, 0, k));
        Checks.says(30, "NOT_FOUND if there is no such root");
        Checks.dueForAll("refined of none", ENDS, -1, k -> none.refined(0, 0, k, 3));
        Checks.dueAt("refined of three", ENDS, new long[] {-1, -1, 0, 2, 8, -1, -1, -1}, k -> x.refined(0, 0, k, 3));
    }

    private static void refinedDepths() {
        Checks.says(30, "depth: 0 to 12; BAD_VALUE if depth is out of range");
        CurveMeetings x = cut(2, -1, 0);
        int[] depths = {MIN, -64, -1, 0, 1, 2, 11, 12, 13, 14, 32, 33, 64, MAX};
        // 0 = 2 - 6 t + 4 t^2 at 1/2 and 1.
        Checks.dueAt("refined(0, 0, 0, depth)", depths, new long[] {-2, -2, -2, 0, 1, 2, 1024, 2048, -2, -2, -2, -2, -2, -2}, k -> x.refined(0, 0, 0, k));
        Checks.says(30, "2 to the power of depth for a root at the last end of the curve");
        Checks.dueAt("refined(0, 0, 1, depth)", depths, new long[] {-2, -2, -2, 1, 2, 4, 2048, 4096, -2, -2, -2, -2, -2, -2}, k -> x.refined(0, 0, 1, k));
        Checks.says(30, "an EXACT root at the fraction 0");
        CurveMeetings y = cut(0, 1);
        Checks.dueAt("refined(0, 0, 0, depth)", depths, new long[] {-2, -2, -2, 0, 0, 0, 0, 0, -2, -2, -2, -2, -2, -2}, k -> y.refined(0, 0, 0, k));
    }

    private static void refinedOrder() {
        Checks.says(30, "NOT_FOUND if there is no such root or it is DOUBTFUL; BAD_VALUE if depth is out of range; checked in this order");
        int[] depths = {MIN, -1, 0, 5, 12, 13, MAX};
        CurveMeetings doubtful = cut(4, -2, 1);
        Checks.dueForAll("refined of a doubtful root", depths, -1, k -> doubtful.refined(0, 0, 0, k));
        Checks.dueForAll("refined of no root", depths, -1, k -> doubtful.refined(0, 0, 1, k));
        Checks.dueForAll("refined of the root -1", depths, -1, k -> doubtful.refined(0, 0, -1, k));
    }

    /** The cells of all depths of a root at above / below, which is inside of each. */
    private static void cellsOfRoot(CurveMeetings x, int root, long above, long below) {
        for (int depth = 0; depth <= 12; depth++) {
            int at = depth;
            Checks.due("refined of " + above + "/" + below + " at depth " + depth, (above << depth) / below, () -> x.refined(0, 0, root, at));
        }
    }

    private static void refinedCells() {
        Checks.says(30, "in which an EXACT or ISOLATED root is (at its start, or inside)");
        cellsOfRoot(cut(2, -1), 0, 2, 3);
        cellsOfRoot(cut(30, -1), 0, 30, 31);
        cellsOfRoot(cut(1, -30), 0, 1, 31);
        cellsOfRoot(Texts.of("curve a 0 0 3 20 20 1; line l 5 5 -199;"), 0, 597, 598);
        cellsOfRoot(Texts.of("curve a 20 20 1 0 0 3; line l 5 5 -199;"), 0, 1, 598);
        // Roots at the start of a cell: the halving comes upon them, at the first depth or later.
        cellsOfRoot(cut(1, -1), 0, 1, 2);
        cellsOfRoot(cut(-1, 1), 0, 1, 2);
        cellsOfRoot(cut(1, -3), 0, 1, 4);
        cellsOfRoot(cut(3, -1), 0, 3, 4);
        cellsOfRoot(cut(-7, 9), 0, 7, 16);
        cellsOfRoot(cut(15, -1), 0, 15, 16);
        cellsOfRoot(cut(0, 1, -1, 0), 1, 1, 2);
        cellsOfRoot(cut(2, -3, 4), 0, 1, 3);
        cellsOfRoot(cut(9, -15, 15, -9), 1, 1, 2);
        // The others are (3 - r) / 6 and (3 + r) / 6, r being the square root of 3.
        cellsOfRoot(cut(9, -15, 15, -9), 0, 211324865405187L, 1000000000000000L);
        cellsOfRoot(cut(9, -15, 15, -9), 2, 788675134594813L, 1000000000000000L);
        // (1 - 2 t) t (1 - t) and the like: a start or an end that is a root as well leads nowhere else.
        cellsOfRoot(cut(0, 3, -1), 0, 0, 1);
        cellsOfRoot(cut(0, 3, -2), 1, 3, 4);
        cellsOfRoot(cut(0, 0, 1, -1), 1, 3, 4);
        cellsOfRoot(cut(1, -1, 0, 0), 0, 1, 4);
        Checks.says(30, "for a depth less than that of the root, it is the cell that contains the cell of the root");
        CurveMeetings close = cut(3, -5, 8);
        cellsOfRoot(close, 0, 1, 3);
        cellsOfRoot(close, 1, 3, 7);
        CurveMeetings quarter = cut(9, -3, 1);
        Checks.dueAt("refined of 3/4, whose cell is 3 of depth 2", new int[] {0, 1, 2, 3, 12}, new long[] {0, 1, 3, 6, 3072}, k -> quarter.refined(0, 0, 0, k));
        CurveMeetings early = cut(1, -3, 9);
        Checks.dueAt("refined of 1/4, whose cell is 1 of depth 2", new int[] {0, 1, 2, 3, 12}, new long[] {0, 0, 1, 2, 1024}, k -> early.refined(0, 0, 0, k));
        quarter.setSetting(0, 2);
        Checks.due("refined beyond LIMIT", 3072, () -> quarter.refined(0, 0, 0, 12));
    }

    private static void tangent(boolean want, int... coefficients) {
        CurveMeetings x = cut(coefficients);
        Checks.due("isTangent of " + shown(coefficients), want, () -> x.isTangent(0, 0));
        x.reverse(0);
        Checks.due("isTangent of " + shown(coefficients) + " reversed", want, () -> x.isTangent(0, 0));
        x.setLine(0, 0, -1, 10);
        Checks.due("isTangent of " + shown(coefficients) + " reversed and turned over", want, () -> x.isTangent(0, 0));
    }

    private static void tangentEnds() {
        Checks.says(31, "there is a fraction from 0 to 1, ends included, that is a root at least twice");
        tangent(true, 0, 0, 1);
        tangent(true, 0, 0, -30);
        tangent(true, 0, 0, 1, 1);
        tangent(true, 0, 0, 1, -1);
        tangent(true, 0, 0, 0, 1);
        tangent(true, 1, -1, 1);
        tangent(true, 1, -1, 1, -1);
        // (a (1 - t) + b t)^2: at 1/5, and at -1/3 and -1/5, which are no fractions from 0 to 1.
        tangent(true, 1, -4, 16);
        tangent(false, 1, 4, 16);
        tangent(false, 1, 5, 25 - 1);
        tangent(false, 1, 3, 9);
        tangent(false, 4, 6, 9);
        tangent(false, 9, 12, 16);
        // The same three times: at 1/3, at -1 and at 3.
        tangent(true, 1, -2, 4, -8);
        tangent(false, 1, 2, 4, 8);
        tangent(false, 8, 12, 18, 27);
        tangent(false, 27, 9, 3, 1);
        // At the end once only.
        tangent(false, 0, 1, 1);
        tangent(false, 0, 1, 0);
        tangent(false, 0, 1, -1, 0);
        tangent(false, 0, 1);
        // Close to a root twice: a little more or less than that.
        tangent(true, 4, -6, 9);
        tangent(false, 4, -6, 8);
        tangent(false, 4, -6, 10);
        tangent(false, 4, -5, 9);
        tangent(false, 4, -7, 9);
        Checks.says(31, "a root twice outside beside a root once inside");
        // (1 + t)^2 (1 - 2 t) and (2 - t)^2 (1 - 2 t).
        tangent(false, 1, 1, 0, -4);
        tangent(false, 4, 0, -1, -1);
        // (3 - 2 t)^2 (1 - 2 t), three times, and (4 - 3 t)^3: twice 3/2, and 4/3 three times.
        tangent(false, 27, -3, -5, -3);
        CurveMeetings beyond = Texts.of("curve a 15 4 1 4 0 1 1 0 1 0 1 1; line m 4 1 0;");
        Checks.due("isTangent of 64 16 4 1", false, () -> beyond.isTangent(0, 0));
        Checks.says(31, "a root twice inside beside a root once outside");
        // (1 - 2 t)^2 (1 + t) and (1 - 2 t)^2 (2 - t).
        tangent(true, 1, 0, -1, 2);
        tangent(true, 2, -1, 0, 1);
    }

    private static void tangentDegrees() {
        Checks.says(31, "this polynomial in t, if it is of less degree than the curve");
        // 1 - 2 t, constants, and (1 - 2 t)^2 as a cubic: 3 -1 -1 3.
        tangent(false, 2, 0, -2);
        tangent(false, 3, 1, -1, -3);
        tangent(false, 1, 1);
        tangent(false, 1, 1, 1);
        tangent(false, 1, 1, 1, 1);
        tangent(true, 3, -1, -1, 3);
        tangent(true, 0, 0, 1, 3);
        tangent(false, 3, 7, 15, 27);
        tangent(false, 0, 1, 2);
        tangent(false, 0, 1, 2, 3);
        Checks.says(31, "false also if the curve lies on the line");
        tangent(false, 0, 0);
        tangent(false, 0, 0, 0);
        tangent(false, 0, 0, 0, 0);
    }

    // ---- sets of lines and curves ----

    private static String six() {
        return "line k 0 1 -10; line l 0 1 -10; line m 0 1 -10; line n 0 1 -10; line o 0 1 -10; line p 0 1 -10;";
    }

    private static void lineSets() {
        Checks.says(32, "bit l is 1 for line l");
        CurveMeetings x = Texts.of("curve a" + points(1, -1) + ";" + six());
        Checks.due("linesMet of six lines", 63, () -> x.linesMet(0));
        for (int line = 0; line < 6; line++) {
            x.setLine(line, 0, 1, 200);
            int want = 63 - (1 << line);
            Checks.due("linesMet without line " + line, want, () -> x.linesMet(0));
            x.undo();
        }
        CurveMeetings none = Texts.of("curve a" + points(1, -1) + ";");
        Checks.due("linesMet without lines", 0, () -> none.linesMet(0));
        Checks.says(32, "the lines with which a curve has an EXACT or ISOLATED root");
        Checks.due("linesMet of an EXACT root alone", 1, () -> cut(0, 1).linesMet(0));
        Checks.due("linesMet of an EXACT root at the last end alone", 1, () -> cut(1, 0).linesMet(0));
        Checks.due("linesMet of an EXACT root inside alone", 1, () -> cut(1, -1, 1).linesMet(0));
        Checks.due("linesMet of an ISOLATED root alone", 1, () -> cut(2, -1).linesMet(0));
        Checks.due("linesMet of a DOUBTFUL root alone", 0, () -> cut(4, -2, 1).linesMet(0));
        Checks.due("linesMet of no root", 0, () -> cut(2, 1).linesMet(0));
        Checks.says(32, "lines on which the curve lies are not in it");
        Checks.due("linesMet of a curve on the line", 0, () -> cut(0, 0, 0).linesMet(0));
    }

    private static String eight(int... coefficients) {
        StringBuilder text = new StringBuilder();
        for (int k = 0; k < 8; k++) {
            text.append("curve ").append((char) ('a' + k)).append(points(coefficients)).append(';');
        }
        return text.append("line m 0 1 -10;").toString();
    }

    private static void curveSets() {
        Checks.says(33, "bit k is 1 for curve k");
        CurveMeetings x = Texts.of(eight(1, -1));
        Checks.due("curvesMet of eight curves", 255, () -> x.curvesMet(0));
        for (int curve = 0; curve < 8; curve++) {
            x.movePoint(curve, 1, 5, 12);
            int want = 255 - (1 << curve);
            Checks.due("curvesMet without curve " + curve, want, () -> x.curvesMet(0));
            x.undo();
        }
        CurveMeetings none = Texts.of("line m 0 1 -10;");
        Checks.due("curvesMet without curves", 0, () -> none.curvesMet(0));
        Checks.says(33, "the curves that have an EXACT or ISOLATED root with a line");
        Checks.due("curvesMet of an EXACT root alone", 1, () -> cut(0, 1).curvesMet(0));
        Checks.due("curvesMet of an ISOLATED root alone", 1, () -> cut(2, -1).curvesMet(0));
        Checks.due("curvesMet of a DOUBTFUL root alone", 0, () -> cut(4, -2, 1).curvesMet(0));
        Checks.says(33, "curves that lie on the line are not in it");
        Checks.due("curvesMet of eight curves on the line", 0, () -> Texts.of(eight(0, 0)).curvesMet(0));
        Checks.says(32, "IndexOutOfBoundsException if curve is not a valid index");
        Checks.dueAt("linesMet", new int[] {MIN, -1, 0, 7, 8, MAX}, new long[] {THROWS, THROWS, 1, 1, THROWS, THROWS}, k -> x.linesMet(k));
        Checks.says(33, "IndexOutOfBoundsException if line is not a valid index");
        Checks.dueAt("curvesMet of one line", new int[] {MIN, -1, 0, 1, MAX}, new long[] {THROWS, THROWS, 255, THROWS, THROWS}, k -> x.curvesMet(k));
        CurveMeetings lines = Texts.of(six());
        Checks.dueAt("curvesMet of six lines", new int[] {-1, 0, 5, 6}, new long[] {THROWS, 0, 0, THROWS}, k -> lines.curvesMet(k));
    }

    private static void busiest() {
        Checks.says(34, "NOT_FOUND if there are none");
        Checks.due("busiestLine() of nothing", -1, () -> new CurveMeetings().busiestLine());
        Checks.due("busiestLine() of curves alone", -1, () -> Texts.of("curve a 0 0 1 1 1 1;").busiestLine());
        Checks.due("busiestLine() of lines alone", 0, () -> Texts.of(six()).busiestLine());
        Checks.due("busiestLine() without roots", 0, () -> Texts.of("curve a" + points(3, 4) + ";" + six()).busiestLine());
        Checks.says(34, "Ties are broken by lower index");
        CurveMeetings x = Texts.of("curve a" + points(1, -1) + "; curve b" + points(-1, 1) + ";" + six());
        Checks.due("busiestLine() of six that tie", 0, () -> x.busiestLine());
        for (int line = 0; line < 5; line++) {
            x.setLine(line, 0, 1, 200);
            int next = line + 1;
            Checks.due("busiestLine() of those from " + next + " on", next, () -> x.busiestLine());
        }
        x.setLine(2, 0, 1, -11);
        Checks.due("busiestLine() of 2 and 5, both with two", 2, () -> x.busiestLine());
        Checks.says(34, "EXACT and ISOLATED roots with all curves together");
        // 5: one root each; 2: three of one curve, of which none is doubtful.
        CurveMeetings y = Texts.of("curve a" + points(0, 1, -1, 0) + "; curve b" + points(5, 5, 6) + "; line m 0 1 -12; line n 0 1 -10; line o 0 1 -15;");
        Checks.due("busiestLine() of 0, 3 and 1", 1, () -> y.busiestLine());
        y.setLine(0, 0, 2, -20);
        Checks.due("busiestLine() of 3, 3 and 1", 0, () -> y.busiestLine());
        CurveMeetings doubtful = Texts.of("curve a" + points(4, -2, 1) + "; curve b" + points(4, -2, 1) + "; curve c" + points(9, 10)
            + "; line m 0 1 -10; line n 0 2 -39;");
        Checks.due("rootCount(0, 0)", 1, () -> doubtful.rootCount(0, 0));
        Checks.due("rootCount(2, 1)", 1, () -> doubtful.rootCount(2, 1));
        Checks.due("busiestLine() of two DOUBTFUL ones and one ISOLATED one", 1, () -> doubtful.busiestLine());
    }

    /** Eight curves of four control points each and six lines: nothing is left free behind the last one. */
    private static void fullFigure() {
        StringBuilder text = new StringBuilder();
        for (int k = 0; k < 8; k++) {
            int at = 14 - 2 * k;
            text.append("curve ").append((char) ('a' + k)).append(' ');
            text.append(at + " 0 1 " + at + " 5 1 " + at + " 15 1 " + at + " 20 1;");
        }
        CurveMeetings x = Texts.of(text + "line p 0 1 -10; line q 0 1 -21; line r 1 0 -14; line s 1 0 0; line t 0 1 0; line u 0 1 -20;");
        Checks.says(32, "at most 8 curves and 6 lines");
        Checks.dueForAll("linesMet", new int[] {0, 1, 2, 3, 4, 5, 6, 7}, 1 | 16 | 32, k -> x.linesMet(k));
        Checks.says(33, "at most 8 curves and 6 lines");
        Checks.dueAt("curvesMet", new int[] {0, 1, 2, 3, 4, 5}, new long[] {255, 0, 0, 0, 255, 255}, k -> x.curvesMet(k));
        Checks.says(34, "at most 8 curves and 6 lines");
        Checks.due("busiestLine() of three that tie", 0, () -> x.busiestLine());
        x.setLine(0, 0, 1, -21);
        Checks.due("busiestLine() of two that tie", 4, () -> x.busiestLine());
        x.setLine(4, 0, 1, 1);
        Checks.due("busiestLine(), the last one", 5, () -> x.busiestLine());
        StringBuilder apart = new StringBuilder();
        for (char name = 'a'; name < 'i'; name++) {
            apart.append("curve ").append(name).append(" 2 5 1 3 6 1;");
        }
        CurveMeetings none = Texts.of(apart + "line p 0 1 1; line q 1 0 -1;");
        Checks.due("busiestLine() of eight curves without a root", 0, () -> none.busiestLine());
        Checks.says(54, "the number of curves that lie on it then, of 8");
        Checks.due("setLine(5, 1, 0, 0)", 1, () -> x.setLine(5, 1, 0, 0));
        Checks.says(47, "at most 8 curves and 6 lines");
        Checks.due("busiestCurve() of eight apart", 0, () -> x.busiestCurve());
        Checks.says(46, "at most 8 curves and 6 lines");
        Checks.dueForAll("curvesNear", new int[] {0, 3, 7}, 0, k -> x.curvesNear(k));
    }

    // ---- promise 48 ----

    private static void movedRanges() {
        CurveMeetings x = cut(1, 1, 1);
        Checks.says(48, "x: 0 to 20; y: 0 to 20; BAD_VALUE if k, x or y is out of range");
        int[] places = {MIN, -1, 0, 1, 19, 20, 21, MAX};
        Checks.dueAt("rootsIfMoved(0, 0, 0, x, 10)", places, new long[] {-2, -2, 1, 1, 1, 1, -2, -2}, k -> x.rootsIfMoved(0, 0, 0, k, 10));
        Checks.dueAt("rootsIfMoved(0, 0, 0, 0, y)", places, new long[] {-2, -2, 1, 1, 0, 0, -2, -2}, k -> x.rootsIfMoved(0, 0, 0, 0, k));
        Checks.dueAt("rootsIfMoved(0, 0, k, 0, 0)", ENDS, new long[] {-2, -2, 1, 2, 1, -2, -2, -2}, k -> x.rootsIfMoved(0, 0, k, 0, 0));
        Checks.says(48, "(checked first), NOT_FOUND if the curve would lie on the line");
        CurveMeetings on = cut(0, 0, 0);
        Checks.dueAt("rootsIfMoved(0, 0, k, 0, 10)", ENDS, new long[] {-2, -2, -1, -1, -1, -2, -2, -2}, k -> on.rootsIfMoved(0, 0, k, 0, 10));
        Checks.dueAt("rootsIfMoved(0, 0, 0, x, 10)", places, new long[] {-2, -2, -1, -1, -1, -1, -2, -2}, k -> on.rootsIfMoved(0, 0, 0, k, 10));
        Checks.due("rootsIfMoved(0, 0, 0, 0, 21)", -2, () -> on.rootsIfMoved(0, 0, 0, 0, 21));
        Checks.due("rootsIfMoved(0, 0, 0, 0, 9), off the line", 1, () -> on.rootsIfMoved(0, 0, 0, 0, 9));
        CurveMeetings nearly = cut(0, 0, 5);
        Checks.due("rootsIfMoved(0, 0, 2, 0, 10), onto the line", -1, () -> nearly.rootsIfMoved(0, 0, 2, 0, 10));
        Checks.due("rootsIfMoved(0, 0, 1, 0, 10), where it is", 1, () -> nearly.rootsIfMoved(0, 0, 1, 0, 10));
    }

    private static void movedRoots() {
        Checks.says(48, "how many roots of all kinds a curve would have");
        CurveMeetings x = cut(4, 1, 1);
        Checks.due("rootsIfMoved to 4 -2 1, one DOUBTFUL root", 1, () -> x.rootsIfMoved(0, 0, 1, 3, 8));
        Checks.due("rootsIfMoved to 4 -3 1", 2, () -> x.rootsIfMoved(0, 0, 1, 3, 7));
        Checks.due("rootsIfMoved to 4 -1 1", 0, () -> x.rootsIfMoved(0, 0, 1, 3, 9));
        CurveMeetings y = cut(0, 1, 1, 0);
        Checks.due("rootsIfMoved to 0 1 -1 0", 3, () -> y.rootsIfMoved(0, 0, 2, 0, 9));
        CurveMeetings z = cut(3, 1, 8);
        z.setSetting(0, 2);
        Checks.due("rootsIfMoved to 3 -5 8 at limit 2, one DOUBTFUL root", 1, () -> z.rootsIfMoved(0, 0, 1, 1, 5));
        z.setSetting(0, 3);
        Checks.due("rootsIfMoved to 3 -5 8 at limit 3, two ISOLATED ones", 2, () -> z.rootsIfMoved(0, 0, 1, 1, 5));
        Checks.says(48, "would have: nothing changes");
        Checks.due("rootCount(0, 0)", 2, () -> y.rootCount(0, 0));
        Checks.due("control(0, 2, 1)", 11, () -> y.control(0, 2, 1));
        Checks.due("coefficient(0, 0, 2)", 1, () -> y.coefficient(0, 0, 2));
        Checks.due("undoCount()", 0, () -> y.undoCount());
        Checks.due("cellControl(0, 1, 0, 3, 1)", 86, () -> y.cellControl(0, 1, 0, 3, 1));
        Checks.due("cellControl(0, 0, 0, 2, 1)", 11, () -> y.cellControl(0, 0, 0, 2, 1));
    }

    // ---- wrong indexes ----

    private static void indexes() {
        CurveMeetings x = cut(1, -1);
        int[][] wrong = {{MIN, 0}, {-1, 0}, {1, 0}, {MAX, 0}, {0, MIN}, {0, -1}, {0, 1}, {0, MAX}, {1, 1}};
        for (int[] pair : wrong) {
            int curve = pair[0];
            int line = pair[1];
            String at = "(" + curve + ", " + line + ", ..)";
            String first = "IndexOutOfBoundsException if curve or line is not a valid index (checked first)";
            Checks.says(21, first);
            Checks.due("coefficient" + at, THROWS, () -> x.coefficient(curve, line, 99));
            Checks.says(22, first);
            Checks.due("signChanges" + at, THROWS, () -> x.signChanges(curve, line, 99, 99));
            Checks.says(23, first);
            Checks.due("isOn" + at, THROWS, () -> x.isOn(curve, line) ? 1 : 0);
            Checks.says(24, first);
            Checks.due("sideOf" + at, THROWS, () -> x.sideOf(curve, line, 0));
            Checks.says(25, first);
            Checks.due("rootCount" + at, THROWS, () -> x.rootCount(curve, line));
            Checks.says(26, first);
            Checks.due("rootsOf" + at, THROWS, () -> x.rootsOf(curve, line, 99));
            Checks.says(27, first);
            Checks.due("rootKind" + at, THROWS, () -> x.rootKind(curve, line, 99));
            Checks.says(28, first);
            Checks.due("rootDepth" + at, THROWS, () -> x.rootDepth(curve, line, 99));
            Checks.says(29, first);
            Checks.due("rootCell" + at, THROWS, () -> x.rootCell(curve, line, 99));
            Checks.says(30, first);
            Checks.due("refined" + at, THROWS, () -> x.refined(curve, line, 99, 99));
            Checks.says(31, first);
            Checks.due("isTangent" + at, THROWS, () -> x.isTangent(curve, line) ? 1 : 0);
            Checks.says(48, first);
            Checks.due("rootsIfMoved" + at, THROWS, () -> x.rootsIfMoved(curve, line, 99, 99, 99));
        }
        CurveMeetings most = Texts.of(eight(1, -1) + "line n 1 0 0; line o 1 0 0; line p 1 0 0; line q 1 0 0; line r 1 0 0;");
        Checks.says(25, "the last valid indexes");
        Checks.due("rootCount(7, 0)", 1, () -> most.rootCount(7, 0));
        Checks.due("rootCount(7, 5)", 1, () -> most.rootCount(7, 5));
        Checks.due("rootCount(8, 5)", THROWS, () -> most.rootCount(8, 5));
        Checks.due("rootCount(7, 6)", THROWS, () -> most.rootCount(7, 6));
    }
}
