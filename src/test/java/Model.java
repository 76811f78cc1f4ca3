import java.io.ByteArrayOutputStream;
import java.math.BigInteger;
import java.nio.charset.StandardCharsets;
import java.util.ArrayDeque;
import java.util.ArrayList;
import java.util.Arrays;
import java.util.Collections;
import java.util.HashMap;
import java.util.HashSet;
import java.util.List;
import java.util.Map;
import java.util.Set;
import java.util.TreeSet;
import java.util.regex.Matcher;
import java.util.regex.Pattern;

/**
 * The document once more, slowly and with fractions, as a second opinion on every answer. It bears the
 * names of the face, so that a call goes to both by its name.
 */
public final class Model {
    private static final class Curve {
        String name;
        List<int[]> points = new ArrayList<>();

        Curve copy() {
            Curve other = new Curve();
            other.name = name;
            for (int[] point : points) {
                other.points.add(point.clone());
            }
            return other;
        }

        int n() {
            return points.size() - 1;
        }
    }

    private static final class State {
        List<Curve> curves = new ArrayList<>();
        List<String> lineNames = new ArrayList<>();
        List<int[]> lines = new ArrayList<>();
        int[] settings = {10, 4};

        State copy() {
            State other = new State();
            for (Curve curve : curves) {
                other.curves.add(curve.copy());
            }
            other.lineNames.addAll(lineNames);
            for (int[] line : lines) {
                other.lines.add(line.clone());
            }
            other.settings = settings.clone();
            return other;
        }
    }

    private static final class Root {
        final int kind;
        final int depth;
        final int cell;

        Root(int kind, int depth, int cell) {
            this.kind = kind;
            this.depth = depth;
            this.cell = cell;
        }
    }

    private State state = new State();
    private final ArrayDeque<State> kept = new ArrayDeque<>();
    private ByteArrayOutputStream buffer = new ByteArrayOutputStream();
    private int errorPosition = -1;

    // ---- input ----

    public int feed(int a, int b, int c, int d, int e) {
        if (buffer.size() + 20 > 800) {
            return -3;
        }
        for (int word : new int[] {a, b, c, d, e}) {
            buffer.write(word >>> 24);
            buffer.write(word >>> 16);
            buffer.write(word >>> 8);
            buffer.write(word);
        }
        return buffer.size();
    }

    public int load(int length) {
        if (length < 0 || length > buffer.size()) {
            return -2;
        }
        String text = new String(buffer.toByteArray(), 0, length, StandardCharsets.ISO_8859_1);
        buffer = new ByteArrayOutputStream();
        Parser parser = new Parser(text);
        int answer = parser.parse();
        if (answer < 0) {
            errorPosition = parser.position();
            return answer;
        }
        errorPosition = -1;
        state = parser.made;
        kept.clear();
        return answer;
    }

    public int errorPosition() {
        return errorPosition;
    }

    private static final class Stop extends RuntimeException {
        private static final long serialVersionUID = 1L;
        final int code;

        Stop(int code) {
            super(null, null, false, false);
            this.code = code;
        }
    }

    private static final class Parser {
        private static final Pattern TOKEN = Pattern.compile("[a-z]+|[0-9]+|[^ \n]");
        private static final Set<String> RESERVED = Set.of("curve", "line", "set", "limit", "depth");
        private final List<String> tokens = new ArrayList<>();
        private final List<Integer> places = new ArrayList<>();
        private final Set<String> names = new HashSet<>();
        private final Set<String> given = new HashSet<>();
        private final State made = new State();
        private int at = 0;

        Parser(String text) {
            Matcher matcher = TOKEN.matcher(text);
            while (matcher.find()) {
                tokens.add(matcher.group());
                places.add(matcher.start());
            }
            tokens.add("");
            places.add(text.length());
        }

        int position() {
            return places.get(at);
        }

        private String token() {
            return tokens.get(at);
        }

        int parse() {
            int statements = 0;
            try {
                while (!token().isEmpty()) {
                    statement();
                    statements++;
                }
            } catch (Stop stop) {
                return stop.code;
            }
            return statements;
        }

        private void statement() {
            switch (token()) {
                case "curve" -> curve();
                case "line" -> line();
                case "set" -> set();
                default -> throw new Stop(-11);
            }
            if (!token().equals(";")) {
                throw new Stop(-11);
            }
            at++;
        }

        private void name() {
            String name = token();
            if (!name.matches("[a-z]{1,6}") || RESERVED.contains(name)) {
                throw new Stop(-11);
            }
            if (!names.add(name)) {
                throw new Stop(-13);
            }
            at++;
        }

        private int integer(int least, int greatest) {
            if (!token().matches("[0-9]+")) {
                throw new Stop(-11);
            }
            BigInteger number = new BigInteger(token());
            if (number.compareTo(BigInteger.valueOf(least)) < 0 || number.compareTo(BigInteger.valueOf(greatest)) > 0) {
                throw new Stop(-12);
            }
            at++;
            return number.intValueExact();
        }

        private void curve() {
            if (made.curves.size() == 8) {
                throw new Stop(-14);
            }
            at++;
            Curve curve = new Curve();
            curve.name = token();
            name();
            made.curves.add(curve);
            while (curve.points.size() < 2 || !token().equals(";")) {
                int before = at;
                int x = integer(0, 20);
                if (curve.points.size() == 4) {
                    at = before;
                    throw new Stop(-14);
                }
                int y = integer(0, 20);
                int weight = integer(1, 3);
                curve.points.add(new int[] {x, y, weight});
            }
        }

        private int value(int greatest) {
            if (token().equals("-")) {
                at++;
                return -integer(0, greatest);
            }
            return integer(0, greatest);
        }

        private void line() {
            if (made.lines.size() == 6) {
                throw new Stop(-14);
            }
            at++;
            String name = token();
            name();
            int a = value(5);
            int b = value(5);
            if (a == 0 && b == 0) {
                at--;
                throw new Stop(-12);
            }
            made.lineNames.add(name);
            made.lines.add(new int[] {a, b, value(200)});
        }

        private void set() {
            at++;
            String setting = token();
            if (!setting.equals("limit") && !setting.equals("depth")) {
                throw new Stop(-11);
            }
            if (!given.add(setting)) {
                throw new Stop(-13);
            }
            at++;
            if (setting.equals("limit")) {
                made.settings[0] = integer(1, 12);
            } else {
                made.settings[1] = integer(1, 6);
            }
        }
    }

    // ---- the figure ----

    private Curve curveAt(int curve) {
        if (curve < 0 || curve >= state.curves.size()) {
            throw new IndexOutOfBoundsException();
        }
        return state.curves.get(curve);
    }

    private int[] lineAt(int line) {
        if (line < 0 || line >= state.lines.size()) {
            throw new IndexOutOfBoundsException();
        }
        return state.lines.get(line);
    }

    public int curveCount() {
        return state.curves.size();
    }

    public int lineCount() {
        return state.lines.size();
    }

    public int undoCount() {
        return kept.size();
    }

    public int curveNamed(int letters) {
        for (int k = 0; k < state.curves.size(); k++) {
            if (Texts.letters(state.curves.get(k).name) == letters) {
                return k;
            }
        }
        return -1;
    }

    public int lineNamed(int letters) {
        for (int k = 0; k < state.lines.size(); k++) {
            if (Texts.letters(state.lineNames.get(k)) == letters) {
                return k;
            }
        }
        return -1;
    }

    public int getSetting(int setting) {
        return setting == 0 || setting == 1 ? state.settings[setting] : -2;
    }

    public int degree(int curve) {
        return curveAt(curve).n();
    }

    private boolean hasPoint(int curve, int k) {
        return k >= 0 && k < state.curves.get(curve).points.size();
    }

    public int control(int curve, int k, int what) {
        Curve c = curveAt(curve);
        if (!hasPoint(curve, k)) {
            return -1;
        }
        return what < 0 || what > 2 ? -2 : c.points.get(k)[what];
    }

    public int lineNumber(int line, int what) {
        int[] numbers = lineAt(line);
        return what < 0 || what > 2 ? 1000 : numbers[what];
    }

    // ---- cells ----

    /** The numbers of a half of a curve, by means, as the document says. */
    private static List<Ratio> halfOf(List<Ratio> numbers, boolean second) {
        List<Ratio> half = new ArrayList<>();
        List<Ratio> row = numbers;
        while (true) {
            half.add(second ? row.get(row.size() - 1) : row.get(0));
            if (row.size() == 1) {
                break;
            }
            List<Ratio> next = new ArrayList<>();
            for (int k = 0; k + 1 < row.size(); k++) {
                next.add(row.get(k).plus(row.get(k + 1)).times(Ratio.HALF));
            }
            row = next;
        }
        if (second) {
            Collections.reverse(half);
        }
        return half;
    }

    private static List<Ratio> cellOf(List<Ratio> numbers, int depth, int cell) {
        if (depth == 0) {
            return numbers;
        }
        return halfOf(cellOf(numbers, depth - 1, cell / 2), cell % 2 == 1);
    }

    private static List<Ratio> homogeneous(Curve curve, int what) {
        List<Ratio> numbers = new ArrayList<>();
        for (int[] point : curve.points) {
            numbers.add(Ratio.of(what == 2 ? point[2] : point[2] * point[what]));
        }
        return numbers;
    }

    private static List<Ratio> cellNumbers(Curve curve, int depth, int cell, int what) {
        return cellOf(homogeneous(curve, what), depth, cell);
    }

    /** X, Y and W of a cell's control points. */
    private static List<List<Ratio>> cellNumbers(Curve curve, int depth, int cell) {
        List<List<Ratio>> numbers = new ArrayList<>();
        for (int what = 0; what < 3; what++) {
            numbers.add(cellNumbers(curve, depth, cell, what));
        }
        return numbers;
    }

    private static boolean isCell(int depth, int cell, int greatest) {
        return depth >= 0 && depth <= greatest && cell >= 0 && cell < Math.pow(2, depth);
    }

    public long cellControl(int curve, int depth, int cell, int k, int what) {
        Curve c = curveAt(curve);
        if (!isCell(depth, cell, 6) || !hasPoint(curve, k) || what < 0 || what > 2) {
            return -1;
        }
        Ratio scale = Ratio.of(1L << c.n() * depth);
        return cellNumbers(c, depth, cell, what).get(k).times(scale).whole();
    }

    /** A place by the sum of the binomials, not by halving. */
    private static Ratio placeAt(Curve curve, Ratio t, int what) {
        return Polynomial.bernstein(homogeneous(curve, what), t).over(Polynomial.bernstein(homogeneous(curve, 2), t));
    }

    private Ratio place(int curve, int depth, int cell, int axis) {
        Curve c = curveAt(curve);
        if (depth < 0 || depth > 6 || cell < 0 || cell > 1 << depth) {
            return null;
        }
        return placeAt(c, Ratio.of(cell).over(Ratio.of(1L << depth)), axis == 0 ? 0 : 1);
    }

    public long placeNumerator(int curve, int depth, int cell, int axis) {
        Ratio place = place(curve, depth, cell, axis);
        return place == null ? -1 : place.above.longValueExact();
    }

    public long placeDenominator(int curve, int depth, int cell, int axis) {
        Ratio place = place(curve, depth, cell, axis);
        return place == null ? -1 : place.below.longValueExact();
    }

    /** The least x, the least y, the greatest x and the greatest y of a cell's control points. */
    private static Ratio[] boxOf(List<List<Ratio>> cell) {
        Ratio[] box = new Ratio[4];
        List<Ratio> weights = cell.get(2);
        for (int axis = 0; axis < 2; axis++) {
            List<Ratio> numbers = cell.get(axis);
            List<Ratio> places = new ArrayList<>();
            for (int k = 0; k < numbers.size(); k++) {
                places.add(numbers.get(k).over(weights.get(k)));
            }
            box[axis] = Collections.min(places);
            box[2 + axis] = Collections.max(places);
        }
        return box;
    }

    public int boxSide(int curve, int depth, int cell, int side) {
        Curve c = curveAt(curve);
        if (!isCell(depth, cell, 6) || side < 0 || side > 3) {
            return -1;
        }
        Ratio hundredths = boxOf(cellNumbers(c, depth, cell))[side].times(Ratio.of(100));
        return (int) (side < 2 ? hundredths.floor() : hundredths.ceiling()).whole();
    }

    // ---- the hull ----

    private static int turn(int[] a, int[] b, int[] c) {
        return Integer.signum((b[0] - a[0]) * (c[1] - a[1]) - (b[1] - a[1]) * (c[0] - a[0]));
    }

    private static boolean same(int[] a, int[] b) {
        return a[0] == b[0] && a[1] == b[1];
    }

    public boolean isStraight(int curve) {
        List<int[]> points = curveAt(curve).points;
        int[] first = points.get(0);
        for (int[] other : points) {
            if (!same(first, other)) {
                for (int[] third : points) {
                    if (turn(first, other, third) != 0) {
                        return false;
                    }
                }
            }
        }
        return true;
    }

    private static boolean isBetween(int[] p, int[] a, int[] b) {
        return turn(a, b, p) == 0
            && Math.min(a[0], b[0]) <= p[0] && p[0] <= Math.max(a[0], b[0])
            && Math.min(a[1], b[1]) <= p[1] && p[1] <= Math.max(a[1], b[1]);
    }

    private static boolean isInTriangle(int[] p, int[] a, int[] b, int[] c) {
        if (turn(a, b, c) == 0) {
            return isBetween(p, a, b) || isBetween(p, b, c) || isBetween(p, a, c);
        }
        int side = turn(a, b, c);
        return turn(a, b, p) * side >= 0 && turn(b, c, p) * side >= 0 && turn(c, a, p) * side >= 0;
    }

    /** A corner is a place outside of all that the other places span. */
    private static boolean isCorner(List<int[]> points, int k) {
        int[] p = points.get(k);
        List<int[]> others = new ArrayList<>();
        for (int j = 0; j < points.size(); j++) {
            if (same(points.get(j), p)) {
                if (j < k) {
                    return false;
                }
            } else {
                others.add(points.get(j));
            }
        }
        for (int[] a : others) {
            for (int[] b : others) {
                for (int[] c : others) {
                    if (isInTriangle(p, a, b, c)) {
                        return false;
                    }
                }
            }
        }
        return true;
    }

    private List<Integer> hull(int curve) {
        List<int[]> points = curveAt(curve).points;
        List<Integer> corners = new ArrayList<>();
        for (int k = 0; k < points.size(); k++) {
            if (isCorner(points, k)) {
                corners.add(k);
            }
        }
        int start = corners.get(0);
        for (int k : corners) {
            int[] p = points.get(k);
            int[] s = points.get(start);
            if (p[0] < s[0] || p[0] == s[0] && p[1] < s[1]) {
                start = k;
            }
        }
        List<Integer> order = new ArrayList<>();
        order.add(start);
        while (order.size() < corners.size()) {
            int from = order.get(order.size() - 1);
            for (int to : corners) {
                if (to != from && corners.stream().allMatch(
                    other -> turn(points.get(from), points.get(to), points.get(other)) >= 0)) {
                    order.add(to);
                    break;
                }
            }
        }
        return order;
    }

    public int hullSize(int curve) {
        return hull(curve).size();
    }

    public int hullCorner(int curve, int k) {
        List<Integer> hull = hull(curve);
        return k >= 0 && k < hull.size() ? hull.get(k) : -1;
    }

    // ---- curves and lines ----

    private static List<Ratio> coefficients(Curve curve, int[] line) {
        List<Ratio> numbers = new ArrayList<>();
        for (int[] point : curve.points) {
            numbers.add(Ratio.of(point[2] * (line[0] * point[0] + line[1] * point[1] + line[2])));
        }
        return numbers;
    }

    private List<Ratio> coefficients(int curve, int line) {
        Curve c = curveAt(curve);
        return coefficients(c, lineAt(line));
    }

    public int coefficient(int curve, int line, int k) {
        List<Ratio> numbers = coefficients(curve, line);
        return k >= 0 && k < numbers.size() ? (int) numbers.get(k).whole() : -100000;
    }

    private static int changes(List<Ratio> numbers) {
        StringBuilder signs = new StringBuilder();
        for (Ratio number : numbers) {
            signs.append(number.sign() > 0 ? "+" : number.sign() < 0 ? "-" : "");
        }
        int changes = 0;
        for (int k = 1; k < signs.length(); k++) {
            changes += signs.charAt(k) != signs.charAt(k - 1) ? 1 : 0;
        }
        return changes;
    }

    public int signChanges(int curve, int line, int depth, int cell) {
        List<Ratio> numbers = coefficients(curve, line);
        return isCell(depth, cell, 12) ? changes(cellOf(numbers, depth, cell)) : -1;
    }

    private static boolean allZero(List<Ratio> numbers) {
        return numbers.stream().allMatch(Ratio::isZero);
    }

    public boolean isOn(int curve, int line) {
        return allZero(coefficients(curve, line));
    }

    public int sideOf(int curve, int line, int end) {
        List<Ratio> numbers = coefficients(curve, line);
        return numbers.get(end == 0 ? 0 : numbers.size() - 1).sign();
    }

    /** Null if the curve lies on the line. */
    private List<Root> rootsOf(List<Ratio> numbers) {
        if (allZero(numbers)) {
            return null;
        }
        List<Root> roots = new ArrayList<>();
        if (numbers.get(0).isZero()) {
            roots.add(new Root(0, 0, 0));
        }
        search(roots, numbers, 0, 0);
        if (numbers.get(numbers.size() - 1).isZero()) {
            roots.add(new Root(0, 0, 1));
        }
        return roots;
    }

    private void search(List<Root> roots, List<Ratio> numbers, int depth, int cell) {
        int changes = changes(numbers);
        if (changes == 0) {
            return;
        }
        if (changes == 1) {
            roots.add(new Root(1, depth, cell));
        } else if (depth == state.settings[0]) {
            roots.add(new Root(2, depth, cell));
        } else {
            search(roots, halfOf(numbers, false), depth + 1, 2 * cell);
            List<Ratio> second = halfOf(numbers, true);
            if (second.get(0).isZero()) {
                roots.add(new Root(0, depth + 1, 2 * cell + 1));
            }
            search(roots, second, depth + 1, 2 * cell + 1);
        }
    }

    private List<Root> roots(int curve, int line) {
        return rootsOf(coefficients(curve, line));
    }

    public int rootCount(int curve, int line) {
        List<Root> roots = roots(curve, line);
        return roots == null ? -1 : roots.size();
    }

    public int rootsOf(int curve, int line, int kind) {
        List<Root> roots = roots(curve, line);
        if (kind < 0 || kind > 2) {
            return -2;
        }
        return roots == null ? -1 : (int) roots.stream().filter(root -> root.kind == kind).count();
    }

    private Root root(int curve, int line, int index) {
        List<Root> roots = roots(curve, line);
        return roots == null || index < 0 || index >= roots.size() ? null : roots.get(index);
    }

    public int rootKind(int curve, int line, int root) {
        Root found = root(curve, line, root);
        return found == null ? -1 : found.kind;
    }

    public int rootDepth(int curve, int line, int root) {
        Root found = root(curve, line, root);
        return found == null ? -1 : found.depth;
    }

    public int rootCell(int curve, int line, int root) {
        Root found = root(curve, line, root);
        return found == null ? -1 : found.cell;
    }

    /** By the values at the ends of the cells, not by sign changes. */
    public int refined(int curve, int line, int root, int depth) {
        Root found = root(curve, line, root);
        if (found == null || found.kind == 2) {
            return -1;
        }
        if (depth < 0 || depth > 12) {
            return -2;
        }
        if (depth <= found.depth) {
            return found.cell / (1 << found.depth - depth);
        }
        if (found.kind == 0) {
            return found.cell * (1 << depth - found.depth);
        }
        List<Ratio> numbers = coefficients(curve, line);
        List<Ratio> inside = cellOf(numbers, found.depth, found.cell);
        // The sign before the root is that of the first coefficient of the cell that is not 0.
        int before = inside.stream().filter(number -> !number.isZero()).findFirst().orElseThrow().sign();
        int low = found.cell << depth - found.depth;
        int high = found.cell + 1 << depth - found.depth;
        while (high - low > 1) {
            int middle = (low + high) / 2;
            Ratio value = Polynomial.bernstein(numbers, Ratio.of(middle).over(Ratio.of(1L << depth)));
            if (value.sign() == -before) {
                high = middle;
            } else {
                low = middle;
            }
            if (value.isZero()) {
                return middle;
            }
        }
        return low;
    }

    /** By the common divisor of the polynomial and its derivative. */
    public boolean isTangent(int curve, int line) {
        List<Ratio> numbers = coefficients(curve, line);
        if (allZero(numbers)) {
            return false;
        }
        List<Ratio> polynomial = Polynomial.powerForm(numbers);
        List<Ratio> a = Polynomial.commonFactor(polynomial, Polynomial.derivative(polynomial));
        if (a.size() == 1) {
            return false;
        }
        // t - r, or its square if r is a root three times.
        Ratio root = Ratio.ZERO.minus(a.get(a.size() - 2)).over(a.get(a.size() - 1).times(Ratio.of(a.size() - 1)));
        return root.compareTo(Ratio.ZERO) >= 0 && root.compareTo(Ratio.ONE) <= 0;
    }

    private int sureRoots(int curve, int line) {
        List<Root> roots = roots(curve, line);
        return roots == null ? 0 : (int) roots.stream().filter(root -> root.kind != 2).count();
    }

    public int linesMet(int curve) {
        curveAt(curve);
        int met = 0;
        for (int line = 0; line < state.lines.size(); line++) {
            met += sureRoots(curve, line) > 0 ? 1 << line : 0;
        }
        return met;
    }

    public int curvesMet(int line) {
        lineAt(line);
        int met = 0;
        for (int curve = 0; curve < state.curves.size(); curve++) {
            met += sureRoots(curve, line) > 0 ? 1 << curve : 0;
        }
        return met;
    }

    public int busiestLine() {
        List<Integer> sums = new ArrayList<>();
        for (int line = 0; line < state.lines.size(); line++) {
            int sum = 0;
            for (int curve = 0; curve < state.curves.size(); curve++) {
                sum += sureRoots(curve, line);
            }
            sums.add(sum);
        }
        return sums.isEmpty() ? -1 : sums.indexOf(Collections.max(sums));
    }

    public int rootsIfMoved(int curve, int line, int k, int x, int y) {
        Curve c = curveAt(curve).copy();
        int[] l = lineAt(line);
        if (!hasPoint(curve, k) || x < 0 || x > 20 || y < 0 || y > 20) {
            return -2;
        }
        c.points.get(k)[0] = x;
        c.points.get(k)[1] = y;
        List<Root> roots = rootsOf(coefficients(c, l));
        return roots == null ? -1 : roots.size();
    }

    // ---- bands ----

    private static Ratio bandNumber(Curve curve, Ratio x, Ratio y) {
        int[] first = curve.points.get(0);
        int[] last = curve.points.get(curve.n());
        return Ratio.of(last[0] - first[0]).times(y.minus(Ratio.of(first[1])))
            .minus(Ratio.of(last[1] - first[1]).times(x.minus(Ratio.of(first[0]))));
    }

    private static List<Ratio> bandNumbers(Curve curve) {
        List<Ratio> numbers = new ArrayList<>();
        for (int[] point : curve.points) {
            numbers.add(bandNumber(curve, Ratio.of(point[0]), Ratio.of(point[1])));
        }
        return numbers;
    }

    public int bandLow(int curve) {
        return (int) Collections.min(bandNumbers(curveAt(curve))).whole();
    }

    public int bandHigh(int curve) {
        return (int) Collections.max(bandNumbers(curveAt(curve))).whole();
    }

    private List<Integer> left(int curve, int other) {
        Curve c = curveAt(curve);
        Curve clipper = curveAt(other);
        Ratio low = Collections.min(bandNumbers(clipper));
        Ratio high = Collections.max(bandNumbers(clipper));
        List<Integer> left = new ArrayList<>();
        int depth = state.settings[1];
        for (int cell = 0; cell < 1 << depth; cell++) {
            List<Ratio> numbers = new ArrayList<>();
            List<List<Ratio>> cellNumbers = cellNumbers(c, depth, cell);
            for (int k = 0; k <= c.n(); k++) {
                Ratio weight = cellNumbers.get(2).get(k);
                Ratio x = cellNumbers.get(0).get(k).over(weight);
                numbers.add(bandNumber(clipper, x, cellNumbers.get(1).get(k).over(weight)));
            }
            boolean above = Collections.min(numbers).compareTo(high) > 0;
            boolean below = Collections.max(numbers).compareTo(low) < 0;
            if (!above && !below) {
                left.add(cell);
            }
        }
        return left;
    }

    public int firstLeft(int curve, int other) {
        List<Integer> left = left(curve, other);
        return left.isEmpty() ? -1 : left.get(0);
    }

    public int lastLeft(int curve, int other) {
        List<Integer> left = left(curve, other);
        return left.isEmpty() ? -1 : left.get(left.size() - 1);
    }

    // ---- pairs ----

    /** For the control points of a curve, the boxes of its cells of each depth. */
    private final Map<String, Ratio[][][]> boxes = new HashMap<>();

    private Ratio[][][] boxesOf(Curve curve) {
        StringBuilder key = new StringBuilder();
        for (int[] point : curve.points) {
            key.append(Arrays.toString(point));
        }
        if (boxes.size() > 200) {
            boxes.clear();
        }
        return boxes.computeIfAbsent(key.toString(), none -> {
            Ratio[][][] all = new Ratio[7][][];
            for (int depth = 0; depth < all.length; depth++) {
                all[depth] = new Ratio[1 << depth][];
            }
            fillBoxes(all, cellNumbers(curve, 0, 0), 0, 0);
            return all;
        });
    }

    private static void fillBoxes(Ratio[][][] all, List<List<Ratio>> numbers, int depth, int cell) {
        all[depth][cell] = boxOf(numbers);
        for (int half = 0; half < 2 && depth + 1 < all.length; half++) {
            List<List<Ratio>> below = new ArrayList<>();
            for (List<Ratio> row : numbers) {
                below.add(halfOf(row, half == 1));
            }
            fillBoxes(all, below, depth + 1, 2 * cell + half);
        }
    }

    private static boolean boxesMeet(Ratio[] a, Ratio[] b) {
        for (int axis = 0; axis < 2; axis++) {
            if (a[axis].compareTo(b[2 + axis]) > 0 || b[axis].compareTo(a[2 + axis]) > 0) {
                return false;
            }
        }
        return true;
    }

    private boolean[][] grid(int curve, int other) {
        Curve a = curveAt(curve);
        Curve b = curveAt(other);
        boolean[][] grid = {{true}};
        for (int depth = 0; depth <= state.settings[1]; depth++) {
            Ratio[][] first = boxesOf(a)[depth];
            Ratio[][] second = boxesOf(b)[depth];
            boolean[][] next = new boolean[first.length][second.length];
            for (int k = 0; k < first.length; k++) {
                for (int j = 0; j < second.length; j++) {
                    next[k][j] = grid[k / 2][j / 2] && boxesMeet(first[k], second[j]);
                }
            }
            grid = next;
        }
        return grid;
    }

    /** The key of two curves' points and the depth, and the pairs and meetings found for it last. */
    private String lastKey = "";
    private List<Integer> lastPairs;
    private List<TreeSet<Integer>> lastMeetings;

    private void find(int curve, int other) {
        StringBuilder key = new StringBuilder();
        for (int[] point : curveAt(curve).points) {
            key.append(Arrays.toString(point));
        }
        for (int[] point : curveAt(other).points) {
            key.append(Arrays.toString(point)).append('/');
        }
        key.append(state.settings[1]);
        if (!lastKey.equals(key.toString())) {
            lastKey = key.toString();
            lastPairs = findPairs(curve, other);
            lastMeetings = null;
        }
    }

    private List<Integer> pairs(int curve, int other) {
        find(curve, other);
        return lastPairs;
    }

    private List<TreeSet<Integer>> meetings(int curve, int other) {
        find(curve, other);
        if (lastMeetings == null) {
            lastMeetings = findMeetings(lastPairs);
        }
        return lastMeetings;
    }

    private List<Integer> findPairs(int curve, int other) {
        boolean[][] grid = grid(curve, other);
        List<Integer> pairs = new ArrayList<>();
        for (int k = 0; k < grid.length; k++) {
            for (int j = 0; j < grid.length; j++) {
                if (grid[k][j]) {
                    pairs.add(100 * k + j);
                }
            }
        }
        return pairs;
    }

    public int pairCount(int curve, int other) {
        return pairs(curve, other).size();
    }

    public int pair(int curve, int other, int k) {
        List<Integer> pairs = pairs(curve, other);
        return k >= 0 && k < pairs.size() ? pairs.get(k) : -1;
    }

    /** Each pair is with the first pair that it is joined to, over and over, until nothing changes. */
    private static List<TreeSet<Integer>> findMeetings(List<Integer> pairs) {
        Map<Integer, Integer> first = new HashMap<>();
        pairs.forEach(pair -> first.put(pair, pair));
        boolean changed = true;
        while (changed) {
            changed = false;
            for (int pair : pairs) {
                for (int row = -1; row <= 1; row++) {
                    for (int column = -1; column <= 1; column++) {
                        if (pair % 100 + column < 0) {
                            continue;
                        }
                        Integer neighbour = first.get(pair + 100 * row + column);
                        if (neighbour != null && neighbour < first.get(pair)) {
                            first.put(pair, neighbour);
                            changed = true;
                        }
                    }
                }
            }
        }
        List<TreeSet<Integer>> meetings = new ArrayList<>();
        for (int pair : pairs) {
            if (first.get(pair) == pair) {
                TreeSet<Integer> meeting = new TreeSet<>();
                pairs.stream().filter(member -> first.get(member) == pair).forEach(meeting::add);
                meetings.add(meeting);
            }
        }
        return meetings;
    }

    public int meetingCount(int curve, int other) {
        return meetings(curve, other).size();
    }

    public int meetingOf(int curve, int other, int cell, int otherCell) {
        List<TreeSet<Integer>> meetings = meetings(curve, other);
        if (cell < 0 || cell > 63 || otherCell < 0 || otherCell > 63) {
            return -1;
        }
        for (int k = 0; k < meetings.size(); k++) {
            if (meetings.get(k).contains(100 * cell + otherCell)) {
                return k;
            }
        }
        return -1;
    }

    public int meetingNumber(int curve, int other, int meeting, int what) {
        List<TreeSet<Integer>> meetings = meetings(curve, other);
        if (meeting < 0 || meeting >= meetings.size()) {
            return -1;
        }
        TreeSet<Integer> pairs = meetings.get(meeting);
        return switch (what) {
            case 0 -> pairs.first() / 100;
            case 1 -> pairs.last() / 100;
            case 2 -> pairs.stream().mapToInt(pair -> pair % 100).min().getAsInt();
            case 3 -> pairs.stream().mapToInt(pair -> pair % 100).max().getAsInt();
            case 4 -> pairs.size();
            default -> -2;
        };
    }

    private static boolean alike(List<int[]> a, List<int[]> b) {
        if (a.size() != b.size()) {
            return false;
        }
        Ratio share = Ratio.of(a.get(0)[2]).over(Ratio.of(b.get(0)[2]));
        for (int k = 0; k < a.size(); k++) {
            Ratio here = Ratio.of(a.get(k)[2]).over(Ratio.of(b.get(k)[2]));
            if (!same(a.get(k), b.get(k)) || here.compareTo(share) != 0) {
                return false;
            }
        }
        return true;
    }

    public int sameness(int curve, int other) {
        List<int[]> a = curveAt(curve).points;
        List<int[]> b = new ArrayList<>(curveAt(other).points);
        if (alike(a, b)) {
            return 1;
        }
        Collections.reverse(b);
        return alike(a, b) ? 2 : 0;
    }

    public int sharedEnds(int curve, int other) {
        List<int[]> a = curveAt(curve).points;
        List<int[]> b = curveAt(other).points;
        int sum = 0;
        int bit = 1;
        for (int end = 0; end < 2; end++) {
            for (int otherEnd = 0; otherEnd < 2; otherEnd++) {
                int[] p = a.get(end * (a.size() - 1));
                int[] q = b.get(otherEnd * (b.size() - 1));
                sum += same(p, q) ? bit : 0;
                bit *= 2;
            }
        }
        return sum;
    }

    public int curvesNear(int curve) {
        curveAt(curve);
        int near = 0;
        for (int other = 0; other < state.curves.size(); other++) {
            if (other != curve && !pairs(curve, other).isEmpty()) {
                near |= 1 << other;
            }
        }
        return near;
    }

    public int busiestCurve() {
        int best = -1;
        int most = -1;
        for (int curve = 0; curve < state.curves.size(); curve++) {
            int near = Integer.bitCount(curvesNear(curve));
            if (near > most) {
                most = near;
                best = curve;
            }
        }
        return best;
    }

    // ---- changes ----

    private void keep() {
        kept.addLast(state.copy());
        if (kept.size() > 10) {
            kept.removeFirst();
        }
    }

    private boolean noPoint(int curve, int k) {
        return curve < 0 || curve >= state.curves.size() || !hasPoint(curve, k);
    }

    private static boolean noPlace(int x, int y) {
        return x < 0 || x > 20 || y < 0 || y > 20;
    }

    public int movePoint(int curve, int k, int x, int y) {
        if (noPoint(curve, k)) {
            return -1;
        }
        if (noPlace(x, y)) {
            return -2;
        }
        keep();
        int[] point = state.curves.get(curve).points.get(k);
        int before = point[0] * 100 + point[1];
        point[0] = x;
        point[1] = y;
        return before;
    }

    public int setWeight(int curve, int k, int weight) {
        if (noPoint(curve, k)) {
            return -1;
        }
        if (weight < 1 || weight > 3) {
            return -2;
        }
        keep();
        int[] point = state.curves.get(curve).points.get(k);
        int before = point[2];
        point[2] = weight;
        return before;
    }

    public int insertPoint(int curve, int k, int x, int y, int weight) {
        if (curve < 0 || curve >= state.curves.size()) {
            return -1;
        }
        List<int[]> points = state.curves.get(curve).points;
        if (k < 0 || k > points.size() || noPlace(x, y) || weight < 1 || weight > 3) {
            return -2;
        }
        if (points.size() == 4) {
            return -3;
        }
        keep();
        points.add(k, new int[] {x, y, weight});
        return points.size() - 1;
    }

    public int dropPoint(int curve, int k) {
        if (noPoint(curve, k)) {
            return -1;
        }
        List<int[]> points = state.curves.get(curve).points;
        if (points.size() == 2) {
            return -3;
        }
        keep();
        points.remove(k);
        return points.size() - 1;
    }

    public int reverse(int curve) {
        if (curve < 0 || curve >= state.curves.size()) {
            return -1;
        }
        keep();
        Collections.reverse(state.curves.get(curve).points);
        return state.curves.get(curve).n();
    }

    public int setLine(int line, int a, int b, int c) {
        if (line < 0 || line >= state.lines.size()) {
            return -1;
        }
        if (a < -5 || a > 5 || b < -5 || b > 5 || c < -200 || c > 200 || a == 0 && b == 0) {
            return -2;
        }
        keep();
        state.lines.set(line, new int[] {a, b, c});
        int on = 0;
        for (int curve = 0; curve < state.curves.size(); curve++) {
            on += isOn(curve, line) ? 1 : 0;
        }
        return on;
    }

    public int setSetting(int setting, int value) {
        if (setting != 0 && setting != 1 || value < 1 || value > (setting == 0 ? 12 : 6)) {
            return -2;
        }
        keep();
        int before = state.settings[setting];
        state.settings[setting] = value;
        return before;
    }

    public int undo() {
        if (kept.isEmpty()) {
            return -1;
        }
        state = kept.removeLast();
        return kept.size();
    }
}
