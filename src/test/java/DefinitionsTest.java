import java.util.ArrayList;
import java.util.List;

/**
 * What the document's 'Description' says of a figure, sentence by sentence, looked at on many figures: not by
 * doing it once more, but by what follows of it (values of polynomials, Sturm's chains, all places one by one).
 */
final class DefinitionsTest {
    private static final int FIGURES = 60;
    private static final int CURVES = 4;
    private static final int LINES = 3;
    private static final String[] SPECIAL = {
        // Twice 1/2, twice 2/3, three times 1/2, roots at both ends, on the line, no root at all.
        "curve a 0 11 1 5 9 1 10 11 1; curve b 0 14 1 5 8 1 10 11 1; curve c 0 11 1 5 9 1 10 11 1 15 9 1; curve d 0 10 1 5 8 1 10 11 1 15 10 1;"
            + "line p 0 1 -10; line q 1 -1 0; line r 2 0 -10; set limit 5;",
        "curve a 0 10 2 9 10 1 20 10 3; curve b 3 3 1 3 3 2 3 3 3; curve c 0 0 1 20 20 1 0 0 1; curve d 5 5 1 5 5 1 9 9 1 9 9 3;"
            + "line p 0 1 -10; line q 1 -1 0; line r 1 1 -6; set depth 3;",
        // One in the hull of the others, one on a side, all corners, a corner told twice.
        "curve a 0 0 1 9 1 1 3 2 2 3 9 1; curve b 0 0 3 6 0 1 3 0 1 2 5 1; curve c 7 0 1 0 7 1 7 14 1 14 7 1; curve d 8 8 1 2 3 1 8 8 2 2 9 1;"
            + "line p 1 1 -10; line q 5 -4 -3; line r -1 -5 60; set limit 12; set depth 2;"};

    private long seed = 20261120;

    private DefinitionsTest() {
    }

    static void run() {
        DefinitionsTest test = new DefinitionsTest();
        for (String text : SPECIAL) {
            test.all(text);
        }
        for (int k = 0; k < FIGURES; k++) {
            test.all(test.text(k));
        }
    }

    private void all(String text) {
        for (int curve = 0; curve < CURVES; curve++) {
            cells(text, curve);
            boxes(text, curve);
            hull(text, curve);
            for (int line = 0; line < LINES; line++) {
                signs(text, curve, line);
                roots(text, curve, line);
            }
            for (int other = 0; other < CURVES; other++) {
                bands(text, curve, other);
                pairs(text, curve, other);
            }
        }
    }

    // ---- figures ----

    private int random(int bound) {
        seed = seed * 6364136223846793005L + 1442695040888963407L;
        return (int) ((seed >>> 33) % bound);
    }

    /** Few places, so that many lie together or on a line. */
    private String text(int figure) {
        int step = 1 + figure % 5;
        StringBuilder text = new StringBuilder();
        for (int curve = 0; curve < CURVES; curve++) {
            text.append("curve ").append((char) ('a' + curve));
            for (int points = 2 + random(3); points > 0; points--) {
                text.append(' ').append(step * random(20 / step + 1)).append(' ').append(step * random(20 / step + 1));
                text.append(' ').append(1 + random(3));
            }
            text.append("; ");
        }
        for (int line = 0; line < LINES; line++) {
            int b = random(11) - 5;
            int a = b == 0 ? 1 : random(11) - 5;
            int c = -a * step * random(20 / step + 1) - b * step * random(20 / step + 1);
            text.append("line ").append((char) ('p' + line)).append(' ').append(a).append(' ').append(b).append(' ').append(c).append("; ");
        }
        return text + "set limit " + (1 + random(12)) + "; set depth " + (1 + random(4)) + ";";
    }

    private static Ratio fraction(long above, long below) {
        return Ratio.of(above).over(Ratio.of(below));
    }

    /** X, Y or W of the control points of a curve. */
    private static List<Ratio> numbers(CurveMeetings x, int curve, int what) {
        List<Ratio> numbers = new ArrayList<>();
        for (int k = 0; k <= x.degree(curve); k++) {
            numbers.add(Ratio.of(x.control(curve, k, 2) * (what == 2 ? 1 : x.control(curve, k, what))));
        }
        return numbers;
    }

    /** X, Y or W of the control points of a cell, as often as the document has them. */
    private static List<Ratio> cellNumbers(CurveMeetings x, int curve, int depth, int cell, int what) {
        List<Ratio> numbers = new ArrayList<>();
        for (int k = 0; k <= x.degree(curve); k++) {
            numbers.add(Ratio.of(x.cellControl(curve, depth, cell, k, what)));
        }
        return numbers;
    }

    // ---- cells ----

    private void cells(String text, int curve) {
        for (int depth = 0; depth <= 6; depth++) {
            CurveMeetings x = Texts.of(text);
            for (int cell : new int[] {0, random(1 << depth), (1 << depth) - 1}) {
                String where = text + " curve " + curve + ", cell " + cell + " of depth " + depth;
                Checks.says(14, "the part of a curve from the fraction q / 2^d to (q + 1) / 2^d .. of the same degree itself");
                for (int what = 0; what < 3; what++) {
                    sameCurve(where + ", numbers " + what, numbers(x, curve, what), cellNumbers(x, curve, depth, cell, what), depth, cell);
                }
                places(where, x, curve, depth, cell);
                places(where, x, curve, depth, cell + 1);
            }
        }
    }

    /** Polynomials of a degree up to 3 are the same if they are so at four fractions. */
    private static void sameCurve(String where, List<Ratio> whole, List<Ratio> part, int depth, int cell) {
        Ratio scale = Ratio.of(1L << (whole.size() - 1) * depth);
        for (Ratio s : new Ratio[] {Ratio.ZERO, fraction(1, 3), Ratio.HALF, Ratio.ONE}) {
            Ratio t = Ratio.of(cell).plus(s).over(Ratio.of(1L << depth));
            Ratio want = Polynomial.bernstein(whole, t).times(scale);
            Checks.due(where + " at " + s.above + " / " + s.below, true, () -> Polynomial.bernstein(part, s).compareTo(want) == 0);
        }
    }

    private static void places(String where, CurveMeetings x, int curve, int depth, int cell) {
        Ratio t = fraction(cell, 1L << depth);
        for (int axis = 0; axis < 2; axis++) {
            int what = axis;
            Ratio place = Polynomial.bernstein(numbers(x, curve, what), t).over(Polynomial.bernstein(numbers(x, curve, 2), t));
            Checks.says(15, "the curve has at the fraction t .. the place (X / W, Y / W); the numerator of a place .. in lowest terms");
            Checks.due(where + ", placeNumerator, axis " + what, place.above.longValueExact(), () -> x.placeNumerator(curve, depth, cell, what));
            Checks.says(16, "the curve has at the fraction t .. the place (X / W, Y / W); the denominator of a place .. in lowest terms");
            Checks.due(where + ", placeDenominator, axis " + what, place.below.longValueExact(), () -> x.placeDenominator(curve, depth, cell, what));
        }
    }

    private void boxes(String text, int curve) {
        for (int depth = 0; depth <= 6; depth += 2) {
            CurveMeetings x = Texts.of(text);
            for (int cell : new int[] {0, random(1 << depth), (1 << depth) - 1}) {
                box(text + " curve " + curve, x, curve, depth, cell);
            }
        }
    }

    private static void box(String where, CurveMeetings x, int curve, int depth, int cell) {
        Ratio[] box = boxOf(x, curve, depth, cell);
        Checks.says(17, "The box of a cell reaches from the least to the greatest x and y of the places of its control points; "
            + "rounded down for the sides 0 and 1, and up for the sides 2 and 3");
        for (int side = 0; side < 4; side++) {
            int index = side;
            Ratio hundredths = box[side].times(Ratio.of(100));
            long want = side < 2 ? hundredths.floor().whole() : hundredths.ceiling().whole();
            Checks.due(where + ", cell " + cell + " of depth " + depth + ", side " + side, want, () -> x.boxSide(curve, depth, cell, index));
        }
    }

    /** The least x, the least y, the greatest x and the greatest y. */
    private static Ratio[] boxOf(CurveMeetings x, int curve, int depth, int cell) {
        Ratio[] box = new Ratio[4];
        List<Ratio> weights = cellNumbers(x, curve, depth, cell, 2);
        for (int axis = 0; axis < 2; axis++) {
            List<Ratio> numbers = cellNumbers(x, curve, depth, cell, axis);
            for (int k = 0; k < numbers.size(); k++) {
                Ratio place = numbers.get(k).over(weights.get(k));
                box[axis] = k == 0 || place.compareTo(box[axis]) < 0 ? place : box[axis];
                box[2 + axis] = k == 0 || place.compareTo(box[2 + axis]) > 0 ? place : box[2 + axis];
            }
        }
        return box;
    }

    // ---- the hull ----

    private static void hull(String text, int curve) {
        CurveMeetings x = Texts.of(text);
        int size = x.hullSize(curve);
        String where = text + " curve " + curve;
        Checks.says(19, "the number of control points of a curve that are corners of the hull");
        Checks.due(where + ", corners behind the last one", -1, () -> x.hullCorner(curve, size));
        Checks.due(where + ", the last corner", true, () -> x.hullCorner(curve, size - 1) >= 0);
        Checks.says(20, "the first one is that of least x (of several with the least y); with the lowest index");
        int start = x.hullCorner(curve, 0);
        for (int k = 0; k <= x.degree(curve); k++) {
            int order = order(x, curve, start, k);
            int index = k;
            Checks.due(where + ", the first corner and " + k, true, () -> order < 0 || order == 0 && start <= index);
        }
        for (int corner = 0; corner < size; corner++) {
            corner(where, x, curve, corner, size);
        }
        Checks.says(18, "the places of all control points .. are on one straight line");
        Checks.due(where + ", isStraight", size < 3, () -> x.isStraight(curve));
    }

    private static int order(CurveMeetings x, int curve, int a, int b) {
        return 100 * (x.control(curve, a, 0) - x.control(curve, b, 0)) + x.control(curve, a, 1) - x.control(curve, b, 1);
    }

    private static int turn(CurveMeetings x, int curve, int a, int b, int c) {
        int ax = x.control(curve, a, 0);
        int ay = x.control(curve, a, 1);
        return (x.control(curve, b, 0) - ax) * (x.control(curve, c, 1) - ay) - (x.control(curve, b, 1) - ay) * (x.control(curve, c, 0) - ax);
    }

    private static void corner(String where, CurveMeetings x, int curve, int corner, int size) {
        int a = x.hullCorner(curve, corner);
        int b = x.hullCorner(curve, (corner + 1) % size);
        int c = x.hullCorner(curve, (corner + 2) % size);
        Checks.says(20, "all of the hull lies to the left .. or straight ahead");
        for (int k = 0; k <= x.degree(curve); k++) {
            int index = k;
            Checks.due(where + ", control point " + k + " beside side " + corner, true, () -> turn(x, curve, a, b, index) >= 0);
            boolean same = order(x, curve, a, k) == 0;
            Checks.due(where + ", control point " + k + " at corner " + corner, true, () -> !same || a <= index);
            // Of a hull without a left side, both ends are the least and the greatest place.
            boolean between = order(x, curve, a, k) * order(x, curve, b, k) <= 0;
            Checks.due(where + ", control point " + k + " between two ends", true, () -> size > 2 || between);
        }
        Checks.says(20, "places on its sides are no corners");
        Checks.due(where + ", the turn at the corner behind " + corner, true, () -> size < 3 || turn(x, curve, a, b, c) > 0);
        Checks.due(where + ", corner " + corner + " and the next one", size > 1, () -> order(x, curve, a, b) != 0);
    }

    // ---- roots ----

    private static List<Ratio> coefficients(CurveMeetings x, int curve, int line) {
        List<Ratio> numbers = new ArrayList<>();
        for (int k = 0; k <= x.degree(curve); k++) {
            numbers.add(Ratio.of(x.coefficient(curve, line, k)));
        }
        return numbers;
    }

    private void signs(String text, int curve, int line) {
        CurveMeetings x = Texts.of(text);
        List<Ratio> numbers = coefficients(x, curve, line);
        Checks.says(21, "weight * (a * x + b * y + c) of the control point k");
        for (int k = 0; k < numbers.size(); k++) {
            int index = k;
            int want = x.lineNumber(line, 0) * x.control(curve, k, 0) + x.lineNumber(line, 1) * x.control(curve, k, 1) + x.lineNumber(line, 2);
            Checks.due(text + " curve " + curve + ", line " + line + ", coefficient " + k, want * x.control(curve, k, 2),
                () -> x.coefficient(curve, line, index));
        }
        Checks.says(22, "The number of roots inside the cell (each as often as it is one) is at most that, and is just that if it is 0 or 1");
        List<Ratio> polynomial = Polynomial.powerForm(numbers);
        for (int depth = 0; depth <= 12; depth++) {
            for (int cell : new int[] {0, random(1 << depth), (1 << depth) - 1}) {
                int changes = x.signChanges(curve, line, depth, cell);
                int roots = polynomial.isEmpty() ? 0
                    : Polynomial.allRootsInside(polynomial, fraction(cell, 1L << depth), fraction(cell + 1, 1L << depth));
                Checks.due(text + " curve " + curve + ", line " + line + ", cell " + cell + " of depth " + depth + " has " + roots + " roots, "
                    + changes + " sign changes", true, () -> changes < 2 ? roots == changes : roots <= changes && (changes - roots) % 2 == 0);
            }
        }
    }

    private void roots(String text, int curve, int line) {
        CurveMeetings x = Texts.of(text);
        List<Ratio> polynomial = Polynomial.powerForm(coefficients(x, curve, line));
        String where = text + " curve " + curve + ", line " + line;
        Checks.says(23, "whether all coefficients are 0");
        Checks.due(where + ", isOn", polynomial.isEmpty(), () -> x.isOn(curve, line));
        if (polynomial.isEmpty()) {
            return;
        }
        int count = x.rootCount(curve, line);
        int told = 0;
        Ratio before = Ratio.of(-1);
        for (int root = 0; root < count; root++) {
            int cell = x.rootCell(curve, line, root);
            long cells = 1L << x.rootDepth(curve, line, root);
            int kind = x.rootKind(curve, line, root);
            Ratio from = fraction(cell, cells);
            Ratio to = kind == CurveMeetings.EXACT ? from : fraction(cell + 1, cells);
            int roots = kind == CurveMeetings.EXACT ? Polynomial.valueAt(polynomial, from).isZero() ? 1 : 0 : Polynomial.rootsInside(polynomial, from, to);
            boolean ascending = before.compareTo(from) <= (kind == CurveMeetings.EXACT ? -1 : 0) || kind == CurveMeetings.EXACT && before.compareTo(from) == 0;
            Checks.says(29, "the cell of a root, in ascending order");
            Checks.due(where + ", root " + root + " behind the one before", true, () -> ascending);
            Checks.due(where + ", roots in the cell of root " + root, true, () -> kind == CurveMeetings.DOUBTFUL || roots == 1);
            Checks.says(28, "whose depth is LIMIT counts as one DOUBTFUL root");
            Checks.due(where + ", depth of root " + root, true,
                () -> kind == CurveMeetings.DOUBTFUL ? cells == 1L << x.getSetting(0) : cells <= 1L << x.getSetting(0));
            refined(where, x, curve, line, root, polynomial, from);
            told += roots;
            before = to;
        }
        int found = told;
        int all = Polynomial.rootsInside(polynomial, Ratio.of(-1).over(Ratio.of(1000000)), Ratio.of(1000001).over(Ratio.of(1000000)))
            - outside(polynomial);
        Checks.says(25, "the number of roots of all kinds: each root from 0 to 1 is an EXACT one, or in the cell of one");
        Checks.due(where + ", roots told", all, () -> found);
        Checks.says(31, "a fraction from 0 to 1, ends included, that is a root at least twice");
        List<Ratio> common = Polynomial.commonFactor(polynomial, Polynomial.derivative(polynomial));
        boolean twice = common.size() > 1 && (Polynomial.rootsInside(common, Ratio.ZERO, Ratio.ONE) > 0
            || Polynomial.valueAt(common, Ratio.ZERO).isZero() || Polynomial.valueAt(common, Ratio.ONE).isZero());
        Checks.due(where + ", isTangent", twice, () -> x.isTangent(curve, line));
    }

    /** Roots a little outside of 0 to 1. */
    private static int outside(List<Ratio> polynomial) {
        return Polynomial.rootsInside(polynomial, Ratio.of(-1).over(Ratio.of(1000000)), Ratio.ZERO)
            + Polynomial.rootsInside(polynomial, Ratio.ONE, Ratio.of(1000001).over(Ratio.of(1000000)));
    }

    private void refined(String where, CurveMeetings x, int curve, int line, int root, List<Ratio> polynomial, Ratio start) {
        int kind = x.rootKind(curve, line, root);
        int depth = random(13);
        int at = x.rootDepth(curve, line, root);
        int cell = x.rootCell(curve, line, root);
        int got = x.refined(curve, line, root, depth);
        String call = where + ", refined(.., " + root + ", " + depth + ")";
        Ratio from = fraction(got, 1L << depth);
        Ratio to = fraction(got + 1, 1L << depth);
        if (kind == CurveMeetings.DOUBTFUL) {
            Checks.says(30, "NOT_FOUND if .. it is DOUBTFUL");
            Checks.due(call, -1, () -> got);
        } else if (depth < at) {
            Checks.says(30, "for a depth less than that of the root, it is the cell that contains the cell of the root");
            Checks.due(call, cell / (1 << at - depth), () -> got);
        } else if (kind == CurveMeetings.EXACT) {
            Checks.says(30, "the cell of some depth in which an EXACT .. root is (at its start ..); 2 to the power of depth for a root at the last end");
            Checks.due(call, true, () -> from.compareTo(start) == 0);
        } else {
            Checks.says(30, "the cell of some depth in which an .. ISOLATED root is (at its start, or inside)");
            boolean within = cell == got >> depth - at;
            boolean atStart = depth > at && Polynomial.valueAt(polynomial, from).isZero() && (got & (1 << depth - at) - 1) != 0;
            Checks.due(call, true, () -> within && (atStart || Polynomial.rootsInside(polynomial, from, to) == 1));
        }
    }

    // ---- two curves ----

    private void bands(String text, int curve, int other) {
        CurveMeetings x = Texts.of(text);
        Band band = new Band(x, other);
        String where = text + " curve " + curve + ", band of " + other;
        Checks.says(35, "from the least .. number of the places of its control points");
        Checks.due(where + ", bandLow", band.low, () -> x.bandLow(other));
        Checks.says(36, "to the greatest number of the places of its control points");
        Checks.due(where + ", bandHigh", band.high, () -> x.bandHigh(other));
        int first = -1;
        int end = -1;
        int depth = x.getSetting(1);
        for (int cell = 0; cell < 1 << depth; cell++) {
            if (!band.clips(Texts.of(text), curve, depth, cell)) {
                first = first < 0 ? cell : first;
                end = cell;
            }
        }
        int last = end;
        int least = first;
        Checks.says(37, "greater than the greatest one of the band, or all of them are less than the least one");
        Checks.due(where + ", firstLeft", least, () -> x.firstLeft(curve, other));
        Checks.says(38, "greater than the greatest one of the band, or all of them are less than the least one");
        Checks.due(where + ", lastLeft", last, () -> x.lastLeft(curve, other));
    }

    /** The numbers of places for a curve, and the least and the greatest one of its control points. */
    private static final class Band {
        private final long x0;
        private final long y0;
        private final long width;
        private final long height;
        private long low = Long.MAX_VALUE;
        private long high = Long.MIN_VALUE;

        Band(CurveMeetings x, int curve) {
            int last = x.degree(curve);
            x0 = x.control(curve, 0, 0);
            y0 = x.control(curve, 0, 1);
            width = x.control(curve, last, 0) - x0;
            height = x.control(curve, last, 1) - y0;
            for (int k = 0; k <= last; k++) {
                long number = number(Ratio.of(x.control(curve, k, 0)), Ratio.of(x.control(curve, k, 1))).whole();
                low = Math.min(low, number);
                high = Math.max(high, number);
            }
        }

        private Ratio number(Ratio x, Ratio y) {
            return Ratio.of(width).times(y.minus(Ratio.of(y0))).minus(Ratio.of(height).times(x.minus(Ratio.of(x0))));
        }

        boolean clips(CurveMeetings x, int curve, int depth, int cell) {
            List<Ratio> weights = cellNumbers(x, curve, depth, cell, 2);
            List<Ratio> numbersX = cellNumbers(x, curve, depth, cell, 0);
            List<Ratio> numbersY = cellNumbers(x, curve, depth, cell, 1);
            boolean above = true;
            boolean below = true;
            for (int k = 0; k < weights.size(); k++) {
                Ratio number = number(numbersX.get(k).over(weights.get(k)), numbersY.get(k).over(weights.get(k)));
                above &= number.compareTo(Ratio.of(high)) > 0;
                below &= number.compareTo(Ratio.of(low)) < 0;
            }
            return above || below;
        }
    }

    private static void pairs(String text, int curve, int other) {
        CurveMeetings x = Texts.of(text);
        int depth = Math.min(3, x.getSetting(1));
        x.setSetting(CurveMeetings.DEPTH, depth);
        boolean[][] meet = pairsOf(text, curve, other, depth);
        String where = text + " depth " + depth + ", curves " + curve + " and " + other;
        List<Integer> pairs = new ArrayList<>();
        for (int k = 0; k < 1 << depth; k++) {
            for (int j = 0; j < 1 << depth; j++) {
                if (meet[k][j]) {
                    pairs.add(100 * k + j);
                }
            }
        }
        Checks.says(39, "a pair if at each depth from 0 to DEPTH the boxes of the cells to which they belong meet");
        Checks.due(where + ", pairCount", pairs.size(), () -> x.pairCount(curve, other));
        Checks.due(where + ", pairCount the other way", pairs.size(), () -> x.pairCount(other, curve));
        Checks.says(40, "by ascending cell of the first one, then of the other one");
        for (int k = 0; k <= pairs.size(); k++) {
            int index = k;
            Checks.due(where + ", pair " + k, k < pairs.size() ? pairs.get(k) : -1, () -> x.pair(curve, other, index));
        }
        meetings(where, x, curve, other, pairs);
        Checks.says(46, "the other curves with which a curve has a pair");
        Checks.due(where + ", curvesNear", curve != other && !pairs.isEmpty(), () -> (x.curvesNear(curve) >> other & 1) == 1);
    }

    /** New objects for the boxes, so that none is used for more than 512 calls. */
    private static boolean[][] pairsOf(String text, int curve, int other, int deepest) {
        boolean[][] meet = {{true}};
        for (int depth = 0; depth <= deepest; depth++) {
            CurveMeetings first = Texts.of(text);
            CurveMeetings second = Texts.of(text);
            boolean[][] next = new boolean[1 << depth][1 << depth];
            Ratio[][] boxes = new Ratio[1 << depth][];
            for (int j = 0; j < 1 << depth; j++) {
                boxes[j] = boxOf(second, other, depth, j);
            }
            for (int k = 0; k < 1 << depth; k++) {
                Ratio[] box = boxOf(first, curve, depth, k);
                for (int j = 0; j < 1 << depth; j++) {
                    next[k][j] = meet[k / 2][j / 2] && haveCommon(box, boxes[j]);
                }
            }
            meet = next;
        }
        return meet;
    }

    /** A point in common: the greatest of the least numbers is not beyond the least of the greatest ones. */
    private static boolean haveCommon(Ratio[] a, Ratio[] b) {
        for (int axis = 0; axis < 2; axis++) {
            Ratio from = a[axis].compareTo(b[axis]) > 0 ? a[axis] : b[axis];
            Ratio to = a[2 + axis].compareTo(b[2 + axis]) < 0 ? a[2 + axis] : b[2 + axis];
            if (from.compareTo(to) > 0) {
                return false;
            }
        }
        return true;
    }

    private static void meetings(String where, CurveMeetings x, int curve, int other, List<Integer> pairs) {
        int count = 0;
        for (int pair : pairs) {
            int meeting = x.meetingOf(curve, other, pair / 100, pair % 100);
            int before = count;
            Checks.says(42, "meetings are indexed from 0 in the order of their first pairs");
            Checks.due(where + ", the meeting of " + pair, true, () -> meeting >= 0 && meeting <= before);
            if (meeting == count) {
                meeting(where, x, curve, other, meeting, reached(pairs, pair));
                count++;
            }
        }
        int meetings = count;
        Checks.says(41, "a set of pairs, as large as possible, each of which is reached from each other one");
        Checks.due(where + ", meetingCount", meetings, () -> x.meetingCount(curve, other));
        Checks.says(43, "NOT_FOUND if there is no such meeting");
        Checks.due(where + ", meeting " + meetings, -1, () -> x.meetingNumber(curve, other, meetings, 0));
    }

    /** All pairs that can be reached by going from neighbour to neighbour. */
    private static List<Integer> reached(List<Integer> pairs, int start) {
        List<Integer> reached = new ArrayList<>(List.of(start));
        for (int k = 0; k < reached.size(); k++) {
            for (int pair : pairs) {
                int across = Math.abs(pair / 100 - reached.get(k) / 100);
                int along = Math.abs(pair % 100 - reached.get(k) % 100);
                if (across <= 1 && along <= 1 && !reached.contains(pair)) {
                    reached.add(pair);
                }
            }
        }
        return reached;
    }

    private static void meeting(String where, CurveMeetings x, int curve, int other, int meeting, List<Integer> members) {
        long[] want = {63, 0, 63, 0, members.size(), -2};
        for (int pair : members) {
            Checks.says(42, "each of which is reached from each other one by going from neighbour to neighbour");
            Checks.due(where + ", the meeting of " + pair, meeting, () -> x.meetingOf(curve, other, pair / 100, pair % 100));
            want[0] = Math.min(want[0], pair / 100);
            want[1] = Math.max(want[1], pair / 100);
            want[2] = Math.min(want[2], pair % 100);
            want[3] = Math.max(want[3], pair % 100);
        }
        Checks.says(43, "0: the least cell of the curve; 1: the greatest one; 2: the least cell of the other curve; 3: the greatest one; 4: the number of its pairs");
        for (int what = 0; what < want.length; what++) {
            int index = what;
            Checks.due(where + ", meeting " + meeting + ", number " + what, want[what], () -> x.meetingNumber(curve, other, meeting, index));
        }
    }
}
