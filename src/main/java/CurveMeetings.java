import java.util.Arrays;

/**
 * Rational curves and where they meet, all exactly: cells of curves by halving, roots with lines
 * isolated by sign changes, tangents, bands that clip cells, pairs of cells of two curves whose
 * boxes meet, and meetings made of them.
 */
public final class CurveMeetings {
    public static final int LIMIT = 0, DEPTH = 1;
    public static final int EXACT = 0, ISOLATED = 1, DOUBTFUL = 2;
    public static final int NOT_FOUND = -1;
    public static final int BAD_VALUE = -2;
    public static final int FULL = -3;
    public static final int SYNTAX_ERROR = -11, RANGE_ERROR = -12, DUPLICATE_ERROR = -13, COUNT_ERROR = -14;

    private static final int MAX_CURVES = 8;
    private static final int MAX_LINES = 6;
    private static final int MIN_POINTS = 2;
    private static final int MAX_POINTS = 4;
    private static final int MAX_PLACE = 20;
    private static final int MAX_WEIGHT = 3;
    private static final int MAX_SLOPE = 5;
    private static final int MAX_OFFSET = 200;
    private static final int MAX_LIMIT = 12;
    private static final int MAX_DEPTH = 6;
    private static final int MAX_KEPT = 10;
    private static final int MAX_BYTES = 800;
    private static final int FEED_BYTES = 20;
    private static final int NO_LINE_NUMBER = 1000;
    private static final int NO_COEFFICIENT = -100000;
    private static final int OUT_OF_RANGE = -1;
    private static final int X = 0, Y = 1, WEIGHT = 2;

    private final Figure figure;
    private final Figure draft;
    private final History history;
    private final TextReader reader;
    private final Cells cells;
    private final LineCut cut;
    private final PairGrid grid;
    private final Hull hull;
    private final Band band;
    private int errorAt;

    public CurveMeetings() {
        figure = new Figure();
        draft = new Figure();
        history = new History();
        reader = new TextReader();
        cells = new Cells();
        cut = new LineCut();
        grid = new PairGrid();
        hull = new Hull();
        band = new Band();
        errorAt = NOT_FOUND;
        figure.makeEmpty();
    }

    // ---- input ----

    public int feed(int a, int b, int c, int d, int e) {
        if (reader.filled() > MAX_BYTES - FEED_BYTES) {
            return FULL;
        }
        reader.append(a);
        reader.append(b);
        reader.append(c);
        reader.append(d);
        reader.append(e);
        return reader.filled();
    }

    public int load(int length) {
        if (length < 0 || length > reader.filled()) {
            return BAD_VALUE;
        }
        int answer = reader.read(length, draft);
        reader.empty();
        if (answer < 0) {
            errorAt = reader.place();
            return answer;
        }
        errorAt = NOT_FOUND;
        figure.copyFrom(draft);
        history.forget();
        return answer;
    }

    public int errorPosition() {
        return errorAt;
    }

    // ---- the figure ----

    public int curveCount() {
        return figure.curves();
    }

    public int lineCount() {
        return figure.lines();
    }

    public int undoCount() {
        return history.size();
    }

    public int curveNamed(int letters) {
        return figure.findCurve(letters);
    }

    public int lineNamed(int letters) {
        return figure.findLine(letters);
    }

    public int getSetting(int setting) {
        return isSetting(setting) ? figure.setting(setting) : BAD_VALUE;
    }

    public int degree(int curve) throws IndexOutOfBoundsException {
        requireCurve(curve);
        return figure.top(curve);
    }

    public int control(int curve, int k, int what) throws IndexOutOfBoundsException {
        requireCurve(curve);
        if (!figure.hasPoint(curve, k)) {
            return NOT_FOUND;
        }
        return isWithin(what, X, WEIGHT) ? figure.point(curve, k, what) : BAD_VALUE;
    }

    public int lineNumber(int line, int what) throws IndexOutOfBoundsException {
        requireLine(line);
        return isWithin(what, 0, 2) ? figure.lineValue(line, what) : NO_LINE_NUMBER;
    }

    // ---- cells ----

    public long cellControl(int curve, int depth, int cell, int k, int what) throws IndexOutOfBoundsException {
        requireCurve(curve);
        if (!isCell(depth, cell, MAX_DEPTH) || !figure.hasPoint(curve, k) || !isWithin(what, X, WEIGHT)) {
            return OUT_OF_RANGE;
        }
        cells.grow(figure, curve, depth);
        return cells.number(curve, nodeOf(depth, cell), what, k);
    }

    public long placeNumerator(int curve, int depth, int cell, int axis) throws IndexOutOfBoundsException {
        requireCurve(curve);
        return placePart(curve, depth, cell, axis == 0 ? X : Y, false);
    }

    public long placeDenominator(int curve, int depth, int cell, int axis) throws IndexOutOfBoundsException {
        requireCurve(curve);
        return placePart(curve, depth, cell, axis == 0 ? X : Y, true);
    }

    private long placePart(int curve, int depth, int cell, int what, boolean denominator) {
        boolean atEnd = isWithin(depth, 0, MAX_DEPTH) && cell == 1 << depth;
        if (!atEnd && !isCell(depth, cell, MAX_DEPTH)) {
            return OUT_OF_RANGE;
        }
        cells.grow(figure, curve, depth);
        // The last end starts no cell: it is the last control point of the last one.
        int node = nodeOf(depth, atEnd ? cell - 1 : cell);
        int k = atEnd ? figure.top(curve) : 0;
        long above = cells.number(curve, node, what, k);
        long below = cells.number(curve, node, WEIGHT, k);
        long common = commonDivisor(above, below);
        if (common <= 0) {
            return OUT_OF_RANGE;
        }
        return (denominator ? below : above) / common;
    }

    private static long commonDivisor(long first, long second) {
        long a = first;
        long b = second;
        for (int step = 0; step < 200 && b != 0; step++) {
            long rest = a % b;
            a = b;
            b = rest;
        }
        return a;
    }

    public int boxSide(int curve, int depth, int cell, int side) throws IndexOutOfBoundsException {
        requireCurve(curve);
        if (!isCell(depth, cell, MAX_DEPTH) || !isWithin(side, 0, 3)) {
            return OUT_OF_RANGE;
        }
        cells.grow(figure, curve, depth);
        int node = nodeOf(depth, cell);
        int k = cells.extreme(curve, node, side);
        long above = 100 * cells.number(curve, node, side % 2 == 0 ? X : Y, k);
        long below = cells.number(curve, node, WEIGHT, k);
        if (below <= 0) {
            return OUT_OF_RANGE;
        }
        return (int) (side < 2 ? above / below : (above + below - 1) / below);
    }

    // ---- the hull ----

    public boolean isStraight(int curve) throws IndexOutOfBoundsException {
        requireCurve(curve);
        int size = figure.size(curve);
        for (int a = 0; a < size; a++) {
            for (int b = a + 1; b < size; b++) {
                for (int c = b + 1; c < size; c++) {
                    if (figure.turn(curve, a, b, c) != 0) {
                        return false;
                    }
                }
            }
        }
        return true;
    }

    public int hullSize(int curve) throws IndexOutOfBoundsException {
        requireCurve(curve);
        hull.wrap(figure, curve);
        return hull.size();
    }

    public int hullCorner(int curve, int k) throws IndexOutOfBoundsException {
        requireCurve(curve);
        hull.wrap(figure, curve);
        return hull.corner(k);
    }

    // ---- curves and lines ----

    public int coefficient(int curve, int line, int k) throws IndexOutOfBoundsException {
        requireCurveAndLine(curve, line);
        return figure.hasPoint(curve, k) ? figure.cutNumber(curve, line, k) : NO_COEFFICIENT;
    }

    public int signChanges(int curve, int line, int depth, int cell) throws IndexOutOfBoundsException {
        requireCurveAndLine(curve, line);
        if (!isCell(depth, cell, MAX_LIMIT)) {
            return OUT_OF_RANGE;
        }
        cut.begin(figure, curve, line);
        return cut.changesOfCell(depth, cell);
    }

    public boolean isOn(int curve, int line) throws IndexOutOfBoundsException {
        requireCurveAndLine(curve, line);
        return liesOn(curve, line);
    }

    private boolean liesOn(int curve, int line) {
        cut.begin(figure, curve, line);
        return cut.isAllZero();
    }

    public int sideOf(int curve, int line, int end) throws IndexOutOfBoundsException {
        requireCurveAndLine(curve, line);
        return signOf(figure.cutNumber(curve, line, end == 0 ? 0 : figure.top(curve)));
    }

    public int rootCount(int curve, int line) throws IndexOutOfBoundsException {
        requireCurveAndLine(curve, line);
        findRoots(curve, line);
        return cut.isAllZero() ? NOT_FOUND : cut.size();
    }

    private void findRoots(int curve, int line) {
        cut.begin(figure, curve, line);
        cut.findAll(figure.setting(LIMIT));
    }

    public int rootsOf(int curve, int line, int kind) throws IndexOutOfBoundsException {
        requireCurveAndLine(curve, line);
        if (!isWithin(kind, EXACT, DOUBTFUL)) {
            return BAD_VALUE;
        }
        findRoots(curve, line);
        return cut.isAllZero() ? NOT_FOUND : cut.sizeOfKind(kind);
    }

    public int rootKind(int curve, int line, int root) throws IndexOutOfBoundsException {
        requireCurveAndLine(curve, line);
        findRoots(curve, line);
        return cut.kindOf(root);
    }

    public int rootDepth(int curve, int line, int root) throws IndexOutOfBoundsException {
        requireCurveAndLine(curve, line);
        findRoots(curve, line);
        return cut.depthOf(root);
    }

    public int rootCell(int curve, int line, int root) throws IndexOutOfBoundsException {
        requireCurveAndLine(curve, line);
        findRoots(curve, line);
        return cut.cellOf(root);
    }

    public int refined(int curve, int line, int root, int depth) throws IndexOutOfBoundsException {
        requireCurveAndLine(curve, line);
        findRoots(curve, line);
        int kind = cut.kindOf(root);
        if (kind == NOT_FOUND || kind == DOUBTFUL) {
            return NOT_FOUND;
        }
        return isWithin(depth, 0, MAX_LIMIT) ? cut.cellAtDepth(root, depth) : BAD_VALUE;
    }

    public boolean isTangent(int curve, int line) throws IndexOutOfBoundsException {
        requireCurveAndLine(curve, line);
        cut.begin(figure, curve, line);
        return cut.hasDoubleRoot();
    }

    public int linesMet(int curve) throws IndexOutOfBoundsException {
        requireCurve(curve);
        int met = 0;
        for (int line = 0; line < figure.lines(); line++) {
            if (sureRoots(curve, line) > 0) {
                met |= 1 << line;
            }
        }
        return met;
    }

    public int curvesMet(int line) throws IndexOutOfBoundsException {
        requireLine(line);
        int met = 0;
        for (int curve = 0; curve < figure.curves(); curve++) {
            if (sureRoots(curve, line) > 0) {
                met |= 1 << curve;
            }
        }
        return met;
    }

    private int sureRoots(int curve, int line) {
        findRoots(curve, line);
        return cut.sizeOfKind(EXACT) + cut.sizeOfKind(ISOLATED);
    }

    public int busiestLine() {
        int best = NOT_FOUND;
        int most = -1;
        for (int line = 0; line < figure.lines(); line++) {
            int sum = 0;
            for (int curve = 0; curve < figure.curves(); curve++) {
                sum += sureRoots(curve, line);
            }
            if (sum > most) {
                most = sum;
                best = line;
            }
        }
        return best;
    }

    public int rootsIfMoved(int curve, int line, int k, int x, int y) throws IndexOutOfBoundsException {
        requireCurveAndLine(curve, line);
        if (!figure.hasPoint(curve, k) || !isPlace(x, y)) {
            return BAD_VALUE;
        }
        cut.begin(figure, curve, line);
        cut.replace(k, figure.point(curve, k, WEIGHT) * figure.lineAt(line, x, y));
        cut.findAll(figure.setting(LIMIT));
        return cut.isAllZero() ? NOT_FOUND : cut.size();
    }

    // ---- bands ----

    public int bandLow(int curve) throws IndexOutOfBoundsException {
        requireCurve(curve);
        band.span(figure, curve);
        return band.low();
    }

    public int bandHigh(int curve) throws IndexOutOfBoundsException {
        requireCurve(curve);
        band.span(figure, curve);
        return band.high();
    }

    public int firstLeft(int curve, int other) throws IndexOutOfBoundsException {
        requireCurves(curve, other);
        int depth = prepareClipping(curve, other);
        for (int cell = 0; cell < 1 << depth; cell++) {
            if (!band.clips(cells, curve, nodeOf(depth, cell))) {
                return cell;
            }
        }
        return NOT_FOUND;
    }

    public int lastLeft(int curve, int other) throws IndexOutOfBoundsException {
        requireCurves(curve, other);
        int depth = prepareClipping(curve, other);
        for (int cell = (1 << depth) - 1; cell >= 0; cell--) {
            if (!band.clips(cells, curve, nodeOf(depth, cell))) {
                return cell;
            }
        }
        return NOT_FOUND;
    }

    private int prepareClipping(int curve, int other) {
        int depth = figure.setting(DEPTH);
        band.span(figure, other);
        cells.grow(figure, curve, depth);
        return depth;
    }

    // ---- pairs and meetings ----

    public int pairCount(int curve, int other) throws IndexOutOfBoundsException {
        requireCurves(curve, other);
        markPairs(curve, other);
        return grid.size();
    }

    public int pair(int curve, int other, int k) throws IndexOutOfBoundsException {
        requireCurves(curve, other);
        markPairs(curve, other);
        return grid.pairAt(k);
    }

    public int meetingCount(int curve, int other) throws IndexOutOfBoundsException {
        requireCurves(curve, other);
        markPairs(curve, other);
        return grid.group();
    }

    public int meetingOf(int curve, int other, int cell, int otherCell) throws IndexOutOfBoundsException {
        requireCurves(curve, other);
        markPairs(curve, other);
        grid.group();
        return grid.meetingAt(cell, otherCell);
    }

    public int meetingNumber(int curve, int other, int meeting, int what) throws IndexOutOfBoundsException {
        requireCurves(curve, other);
        markPairs(curve, other);
        int meetings = grid.group();
        if (meeting < 0 || meeting >= meetings) {
            return NOT_FOUND;
        }
        return isWithin(what, 0, 4) ? grid.meetingValue(meeting, what) : BAD_VALUE;
    }

    private void markPairs(int curve, int other) {
        int depth = figure.setting(DEPTH);
        cells.grow(figure, curve, depth);
        cells.grow(figure, other, depth);
        grid.mark(cells, curve, other, depth);
    }

    public int curvesNear(int curve) throws IndexOutOfBoundsException {
        requireCurve(curve);
        return nearSet(curve);
    }

    private int nearSet(int curve) {
        int depth = figure.setting(DEPTH);
        int near = 0;
        cells.grow(figure, curve, depth);
        for (int other = 0; other < figure.curves(); other++) {
            if (other != curve) {
                cells.grow(figure, other, depth);
                if (grid.hasAny(cells, curve, other, depth)) {
                    near |= 1 << other;
                }
            }
        }
        return near;
    }

    public int busiestCurve() {
        int best = NOT_FOUND;
        int most = -1;
        for (int curve = 0; curve < figure.curves(); curve++) {
            int near = Integer.bitCount(nearSet(curve));
            if (near > most) {
                most = near;
                best = curve;
            }
        }
        return best;
    }

    // ---- two curves ----

    public int sameness(int curve, int other) throws IndexOutOfBoundsException {
        requireCurves(curve, other);
        if (figure.size(curve) != figure.size(other)) {
            return 0;
        }
        if (isAlike(curve, other, false)) {
            return 1;
        }
        return isAlike(curve, other, true) ? 2 : 0;
    }

    private boolean isAlike(int curve, int other, boolean backwards) {
        int top = figure.top(curve);
        int weight = figure.point(curve, 0, WEIGHT);
        int otherWeight = figure.point(other, backwards ? top : 0, WEIGHT);
        for (int k = 0; k <= top; k++) {
            int otherK = backwards ? top - k : k;
            if (!isSamePlace(curve, k, other, otherK)) {
                return false;
            }
            if (figure.point(curve, k, WEIGHT) * otherWeight != figure.point(other, otherK, WEIGHT) * weight) {
                return false;
            }
        }
        return true;
    }

    private boolean isSamePlace(int curve, int k, int other, int otherK) {
        return figure.point(curve, k, X) == figure.point(other, otherK, X)
            && figure.point(curve, k, Y) == figure.point(other, otherK, Y);
    }

    public int sharedEnds(int curve, int other) throws IndexOutOfBoundsException {
        requireCurves(curve, other);
        int top = figure.top(curve);
        int otherTop = figure.top(other);
        return (isSamePlace(curve, 0, other, 0) ? 1 : 0)
            + (isSamePlace(curve, 0, other, otherTop) ? 2 : 0)
            + (isSamePlace(curve, top, other, 0) ? 4 : 0)
            + (isSamePlace(curve, top, other, otherTop) ? 8 : 0);
    }

    // ---- changes ----

    public int movePoint(int curve, int k, int x, int y) {
        if (!figure.hasPoint(curve, k)) {
            return NOT_FOUND;
        }
        if (!isPlace(x, y)) {
            return BAD_VALUE;
        }
        int before = 100 * figure.point(curve, k, X) + figure.point(curve, k, Y);
        history.keep(figure);
        figure.putPoint(curve, k, x, y, figure.point(curve, k, WEIGHT));
        return before;
    }

    public int setWeight(int curve, int k, int weight) {
        if (!figure.hasPoint(curve, k)) {
            return NOT_FOUND;
        }
        if (!isWithin(weight, 1, MAX_WEIGHT)) {
            return BAD_VALUE;
        }
        int before = figure.point(curve, k, WEIGHT);
        history.keep(figure);
        figure.putPoint(curve, k, figure.point(curve, k, X), figure.point(curve, k, Y), weight);
        return before;
    }

    public int insertPoint(int curve, int k, int x, int y, int weight) {
        if (!figure.hasCurve(curve)) {
            return NOT_FOUND;
        }
        int size = figure.size(curve);
        if (!isWithin(k, 0, size) || !isPlace(x, y) || !isWithin(weight, 1, MAX_WEIGHT)) {
            return BAD_VALUE;
        }
        if (size >= MAX_POINTS) {
            return FULL;
        }
        history.keep(figure);
        for (int to = size; to > k; to--) {
            figure.copyPoint(curve, to - 1, to);
        }
        figure.putPoint(curve, k, x, y, weight);
        figure.putSize(curve, size + 1);
        return figure.top(curve);
    }

    public int dropPoint(int curve, int k) {
        if (!figure.hasPoint(curve, k)) {
            return NOT_FOUND;
        }
        int size = figure.size(curve);
        if (size <= MIN_POINTS) {
            return FULL;
        }
        history.keep(figure);
        for (int to = k; to < size - 1; to++) {
            figure.copyPoint(curve, to + 1, to);
        }
        figure.putSize(curve, size - 1);
        return figure.top(curve);
    }

    public int reverse(int curve) {
        if (!figure.hasCurve(curve)) {
            return NOT_FOUND;
        }
        history.keep(figure);
        int top = figure.top(curve);
        for (int k = 0; k < top - k; k++) {
            figure.swapPoints(curve, k, top - k);
        }
        return top;
    }

    public int setLine(int line, int a, int b, int c) {
        if (!figure.hasLine(line)) {
            return NOT_FOUND;
        }
        if (!isLine(a, b, c)) {
            return BAD_VALUE;
        }
        history.keep(figure);
        figure.putLineValue(line, 0, a);
        figure.putLineValue(line, 1, b);
        figure.putLineValue(line, 2, c);
        int on = 0;
        for (int curve = 0; curve < figure.curves(); curve++) {
            if (liesOn(curve, line)) {
                on++;
            }
        }
        return on;
    }

    public int setSetting(int setting, int value) {
        if (!isSetting(setting) || !isWithin(value, 1, greatestOf(setting))) {
            return BAD_VALUE;
        }
        int before = figure.setting(setting);
        history.keep(figure);
        figure.putSetting(setting, value);
        return before;
    }

    public int undo() {
        return history.takeBack(figure) ? history.size() : NOT_FOUND;
    }

    // ---- tests of parameters ----

    private void requireCurve(int curve) {
        if (!figure.hasCurve(curve)) {
            throw new IndexOutOfBoundsException("no such curve");
        }
    }

    private void requireCurves(int curve, int other) {
        requireCurve(curve);
        requireCurve(other);
    }

    private void requireLine(int line) {
        if (!figure.hasLine(line)) {
            throw new IndexOutOfBoundsException("no such line");
        }
    }

    private void requireCurveAndLine(int curve, int line) {
        requireCurve(curve);
        requireLine(line);
    }

    private static boolean isWithin(int value, int least, int greatest) {
        return value >= least && value <= greatest;
    }

    private static boolean isPlace(int x, int y) {
        return isWithin(x, 0, MAX_PLACE) && isWithin(y, 0, MAX_PLACE);
    }

    private static boolean isLine(int a, int b, int c) {
        return isWithin(a, -MAX_SLOPE, MAX_SLOPE) && isWithin(b, -MAX_SLOPE, MAX_SLOPE)
            && isWithin(c, -MAX_OFFSET, MAX_OFFSET) && (a != 0 || b != 0);
    }

    private static boolean isSetting(int setting) {
        return setting == LIMIT || setting == DEPTH;
    }

    private static int greatestOf(int setting) {
        return setting == LIMIT ? MAX_LIMIT : MAX_DEPTH;
    }

    private static boolean isCell(int depth, int cell, int maxDepth) {
        return isWithin(depth, 0, maxDepth) && cell >= 0 && cell < 1 << depth;
    }

    // ---- halving ----

    private static int signOf(long number) {
        return number > 0 ? 1 : number < 0 ? -1 : 0;
    }

    /** Cells of all depths are numbered in one row: those of the depth d from 2^d - 1 on. */
    private static int nodeOf(int depth, int cell) {
        return (1 << depth) - 1 + cell;
    }

    /**
     * Makes the numbers of a half of those at from, behind to in the same row. Sums stand for means, and
     * the halvings left out are made up for, so that all comes out 2^degree times as large, in integers.
     */
    private static void halve(long[] row, int from, int to, int degree, boolean second) {
        if (degree < 0 || degree >= MAX_POINTS || from < 0 || from > row.length - MAX_POINTS
            || to < 0 || to > row.length - MAX_POINTS) {
            return;
        }
        for (int k = 0; k <= degree; k++) {
            row[to + k] = row[from + k];
        }
        for (int step = 1; step <= degree; step++) {
            if (second) {
                for (int k = 0; k <= degree - step; k++) {
                    row[to + k] += row[to + k + 1];
                }
            } else {
                for (int k = degree; k >= step; k--) {
                    row[to + k] += row[to + k - 1];
                }
            }
        }
        for (int k = 0; k <= degree; k++) {
            row[to + k] *= 1L << (second ? k : degree - k);
        }
    }

    /** A figure is one row of numbers, so that it is kept, loaded and restored by one copy. */
    private static final class Figure {
        private static final int CURVES = 0;
        private static final int LINES = 1;
        private static final int SETTINGS = 2;
        private static final int CURVE_NAMES = SETTINGS + 2;
        private static final int LINE_NAMES = CURVE_NAMES + MAX_CURVES;
        private static final int SIZES = LINE_NAMES + MAX_LINES;
        private static final int POINTS = SIZES + MAX_CURVES;
        private static final int LINE_VALUES = POINTS + MAX_CURVES * MAX_POINTS * 3;
        private static final int LENGTH = LINE_VALUES + MAX_LINES * 3;
        private static final int INITIAL_LIMIT = 10;
        private static final int INITIAL_DEPTH = 4;

        private final int[] numbers = new int[LENGTH];

        private int at(int index) {
            return index >= 0 && index < numbers.length ? numbers[index] : 0;
        }

        private void put(int index, int value) {
            if (index >= 0 && index < numbers.length) {
                numbers[index] = value;
            }
        }

        void makeEmpty() {
            Arrays.fill(numbers, 0);
            put(SETTINGS + LIMIT, INITIAL_LIMIT);
            put(SETTINGS + DEPTH, INITIAL_DEPTH);
        }

        void copyFrom(Figure source) {
            System.arraycopy(source.numbers, 0, numbers, 0, LENGTH);
        }

        void saveTo(int[] store, int start) {
            if (start >= 0 && start <= store.length - LENGTH) {
                System.arraycopy(numbers, 0, store, start, LENGTH);
            }
        }

        void restoreFrom(int[] store, int start) {
            if (start >= 0 && start <= store.length - LENGTH) {
                System.arraycopy(store, start, numbers, 0, LENGTH);
            }
        }

        int curves() {
            return at(CURVES);
        }

        int lines() {
            return at(LINES);
        }

        boolean hasCurve(int curve) {
            return curve >= 0 && curve < curves();
        }

        boolean hasLine(int line) {
            return line >= 0 && line < lines();
        }

        boolean hasPoint(int curve, int k) {
            return hasCurve(curve) && k >= 0 && k < size(curve);
        }

        /** The caller has made sure that there is room for one more. */
        int addCurve(int letters) {
            int curve = curves();
            put(CURVE_NAMES + curve, letters);
            put(CURVES, curve + 1);
            return curve;
        }

        int addLine(int letters) {
            int line = lines();
            put(LINE_NAMES + line, letters);
            put(LINES, line + 1);
            return line;
        }

        int findCurve(int letters) {
            return find(letters, CURVE_NAMES, curves());
        }

        int findLine(int letters) {
            return find(letters, LINE_NAMES, lines());
        }

        private int find(int letters, int start, int count) {
            for (int k = 0; k < count; k++) {
                if (at(start + k) == letters) {
                    return k;
                }
            }
            return NOT_FOUND;
        }

        int setting(int setting) {
            return at(SETTINGS + setting);
        }

        void putSetting(int setting, int value) {
            put(SETTINGS + setting, value);
        }

        /** The number of control points of a curve. */
        int size(int curve) {
            return at(SIZES + curve);
        }

        void putSize(int curve, int size) {
            put(SIZES + curve, size);
        }

        /** The index of the last control point, which is the degree as well. */
        int top(int curve) {
            return size(curve) - 1;
        }

        private static int pointStart(int curve, int k) {
            return POINTS + (curve * MAX_POINTS + k) * 3;
        }

        int point(int curve, int k, int what) {
            return at(pointStart(curve, k) + what);
        }

        void putPoint(int curve, int k, int x, int y, int weight) {
            putPointNumber(curve, k, X, x);
            putPointNumber(curve, k, Y, y);
            putPointNumber(curve, k, WEIGHT, weight);
        }

        void putPointNumber(int curve, int k, int what, int value) {
            put(pointStart(curve, k) + what, value);
        }

        void copyPoint(int curve, int from, int to) {
            putPoint(curve, to, point(curve, from, X), point(curve, from, Y), point(curve, from, WEIGHT));
        }

        void swapPoints(int curve, int first, int second) {
            int x = point(curve, first, X);
            int y = point(curve, first, Y);
            int weight = point(curve, first, WEIGHT);
            copyPoint(curve, second, first);
            putPoint(curve, second, x, y, weight);
        }

        int lineValue(int line, int what) {
            return at(LINE_VALUES + line * 3 + what);
        }

        void putLineValue(int line, int what, int value) {
            put(LINE_VALUES + line * 3 + what, value);
        }

        int lineAt(int line, int x, int y) {
            return lineValue(line, 0) * x + lineValue(line, 1) * y + lineValue(line, 2);
        }

        /** The coefficient k of a curve and a line. */
        int cutNumber(int curve, int line, int k) {
            return point(curve, k, WEIGHT) * lineAt(line, point(curve, k, X), point(curve, k, Y));
        }

        /** Greater than 0 if the way from control point a over b to c turns to the left. */
        int turn(int curve, int a, int b, int c) {
            int ax = point(curve, a, X);
            int ay = point(curve, a, Y);
            return (point(curve, b, X) - ax) * (point(curve, c, Y) - ay)
                - (point(curve, b, Y) - ay) * (point(curve, c, X) - ax);
        }
    }

    /** The figures before the latest changes, in a ring. */
    private static final class History {
        private final int[] kept = new int[MAX_KEPT * Figure.LENGTH];
        private int oldest;
        private int count;

        int size() {
            return count;
        }

        void forget() {
            count = 0;
        }

        private static int startOf(int slot) {
            return slot % MAX_KEPT * Figure.LENGTH;
        }

        void keep(Figure figure) {
            if (count >= MAX_KEPT) {
                oldest = (oldest + 1) % MAX_KEPT;
                count--;
            }
            figure.saveTo(kept, startOf(oldest + count));
            count++;
        }

        boolean takeBack(Figure figure) {
            if (count <= 0) {
                return false;
            }
            count--;
            figure.restoreFrom(kept, startOf(oldest + count));
            return true;
        }
    }

    /** Reads a text into a figure. After an error the token that it stands at is the wrong one. */
    private static final class TextReader {
        private static final int WORD = 0, INTEGER = 1, SEMICOLON = 2, MINUS = 3, STRANGE = 4, END = 5;
        private static final int NO_ERROR = 0;
        private static final int MAX_LETTERS = 6;
        /** Larger than every range, and far from overflow. */
        private static final int LARGE = 100000;
        /** No name has these letters: the value of a word that is too long for one. */
        private static final int TOO_LONG = 0;
        private static final int CURVE_WORD = 3 << 25 | 21 << 20 | 18 << 15 | 22 << 10 | 5 << 5;
        private static final int LINE_WORD = 12 << 25 | 9 << 20 | 14 << 15 | 5 << 10;
        private static final int SET_WORD = 19 << 25 | 5 << 20 | 20 << 15;
        private static final int LIMIT_WORD = 12 << 25 | 9 << 20 | 13 << 15 | 9 << 10 | 20 << 5;
        private static final int DEPTH_WORD = 4 << 25 | 5 << 20 | 16 << 15 | 20 << 10 | 8 << 5;

        private final byte[] text = new byte[MAX_BYTES];
        private int filled;
        private int length;
        private int start;
        private int next;
        private int kind;
        /** The letters of a word, or the number of an integer. */
        private int value;
        private int settingsGiven;

        int filled() {
            return filled;
        }

        void empty() {
            filled = 0;
        }

        /** Appends four bytes, the most significant one first. */
        void append(int word) {
            for (int shift = 24; shift >= 0; shift -= 8) {
                if (filled >= 0 && filled < text.length) {
                    text[filled] = (byte) (word >> shift);
                    filled++;
                }
            }
        }

        int place() {
            return start;
        }

        /** The number of statements, or the code of the first error. */
        int read(int textLength, Figure target) {
            length = textLength;
            next = 0;
            settingsGiven = 0;
            target.makeEmpty();
            advance();
            for (int statements = 0; statements <= MAX_BYTES; statements++) {
                if (kind == END) {
                    return statements;
                }
                int error = readStatement(target);
                if (error != NO_ERROR) {
                    return error;
                }
            }
            return SYNTAX_ERROR;
        }

        private int readStatement(Figure target) {
            int error = SYNTAX_ERROR;
            if (isWord(CURVE_WORD)) {
                error = readCurve(target);
            } else if (isWord(LINE_WORD)) {
                error = readLine(target);
            } else if (isWord(SET_WORD)) {
                error = readSetting(target);
            }
            if (error != NO_ERROR) {
                return error;
            }
            if (kind != SEMICOLON) {
                return SYNTAX_ERROR;
            }
            advance();
            return NO_ERROR;
        }

        private int readCurve(Figure target) {
            if (target.curves() >= MAX_CURVES) {
                return COUNT_ERROR;
            }
            advance();
            int error = checkName(target);
            if (error != NO_ERROR) {
                return error;
            }
            int curve = target.addCurve(value);
            advance();
            for (int index = 0; index <= 3 * MAX_POINTS; index++) {
                int k = index / 3;
                int what = index % 3;
                if (what == X && k >= MIN_POINTS && kind == SEMICOLON) {
                    return NO_ERROR;
                }
                error = checkPointNumber(k, what);
                if (error != NO_ERROR) {
                    return error;
                }
                target.putPointNumber(curve, k, what, value);
                target.putSize(curve, k + 1);
                advance();
            }
            return COUNT_ERROR;
        }

        private int checkPointNumber(int k, int what) {
            int error = what == WEIGHT ? checkInteger(1, MAX_WEIGHT) : checkInteger(0, MAX_PLACE);
            return error == NO_ERROR && k >= MAX_POINTS ? COUNT_ERROR : error;
        }

        private int readLine(Figure target) {
            if (target.lines() >= MAX_LINES) {
                return COUNT_ERROR;
            }
            advance();
            int error = checkName(target);
            if (error != NO_ERROR) {
                return error;
            }
            int line = target.addLine(value);
            advance();
            for (int what = 0; what < 3; what++) {
                boolean negative = kind == MINUS;
                if (negative) {
                    advance();
                }
                error = checkInteger(0, what < 2 ? MAX_SLOPE : MAX_OFFSET);
                if (error == NO_ERROR && what == 1 && target.lineValue(line, 0) == 0 && value == 0) {
                    error = RANGE_ERROR;
                }
                if (error != NO_ERROR) {
                    return error;
                }
                target.putLineValue(line, what, negative ? -value : value);
                advance();
            }
            return NO_ERROR;
        }

        private int readSetting(Figure target) {
            advance();
            if (!isWord(LIMIT_WORD) && !isWord(DEPTH_WORD)) {
                return SYNTAX_ERROR;
            }
            int setting = value == LIMIT_WORD ? LIMIT : DEPTH;
            if ((settingsGiven & 1 << setting) != 0) {
                return DUPLICATE_ERROR;
            }
            settingsGiven |= 1 << setting;
            advance();
            int error = checkInteger(1, greatestOf(setting));
            if (error != NO_ERROR) {
                return error;
            }
            target.putSetting(setting, value);
            advance();
            return NO_ERROR;
        }

        private boolean isWord(int letters) {
            return kind == WORD && value == letters;
        }

        private int checkName(Figure target) {
            if (kind != WORD || value == TOO_LONG || isReserved(value)) {
                return SYNTAX_ERROR;
            }
            boolean known = target.findCurve(value) != NOT_FOUND || target.findLine(value) != NOT_FOUND;
            return known ? DUPLICATE_ERROR : NO_ERROR;
        }

        private static boolean isReserved(int letters) {
            return letters == CURVE_WORD || letters == LINE_WORD || letters == SET_WORD
                || letters == LIMIT_WORD || letters == DEPTH_WORD;
        }

        private int checkInteger(int least, int greatest) {
            if (kind != INTEGER) {
                return SYNTAX_ERROR;
            }
            return isWithin(value, least, greatest) ? NO_ERROR : RANGE_ERROR;
        }

        private int signAt(int index) {
            return index >= 0 && index < length && index < text.length ? text[index] & 255 : -1;
        }

        private static boolean isLetter(int sign) {
            return sign >= 'a' && sign <= 'z';
        }

        private static boolean isDigit(int sign) {
            return sign >= '0' && sign <= '9';
        }

        private static boolean isBlank(int sign) {
            return sign == ' ' || sign == '\n';
        }

        private void advance() {
            start = next;
            while (start < length && isBlank(signAt(start))) {
                start++;
            }
            next = start;
            int sign = signAt(start);
            if (start >= length) {
                kind = END;
            } else if (isLetter(sign)) {
                takeWord();
            } else if (isDigit(sign)) {
                takeInteger();
            } else {
                kind = sign == ';' ? SEMICOLON : sign == '-' ? MINUS : STRANGE;
                next = start + 1;
            }
        }

        private void takeWord() {
            kind = WORD;
            int letters = 0;
            while (next < length && isLetter(signAt(next))) {
                int count = next - start;
                if (count < MAX_LETTERS) {
                    letters |= signAt(next) - 'a' + 1 << 5 * (MAX_LETTERS - 1 - count);
                }
                next++;
            }
            value = next - start <= MAX_LETTERS ? letters : TOO_LONG;
        }

        private void takeInteger() {
            kind = INTEGER;
            value = 0;
            while (next < length && isDigit(signAt(next))) {
                if (value < LARGE) {
                    value = 10 * value + signAt(next) - '0';
                }
                next++;
            }
        }
    }

    /**
     * The cells of all curves, in a tree for each, grown as deep as they were asked for. A tree stands
     * until its curve has other control points; looking at these each time saves telling it of changes.
     */
    private static final class Cells {
        private static final int NODES = (1 << MAX_DEPTH + 1) - 1;
        private static final int SIDES = 4;

        private final long[] numbers = new long[MAX_CURVES * NODES * 3 * MAX_POINTS];
        /** For each side of a cell's box the control point that lies on it. */
        private final int[] extremes = new int[MAX_CURVES * NODES * SIDES];
        private final int[] degrees = new int[MAX_CURVES];
        private final int[] depths = new int[MAX_CURVES];

        private static int startOf(int curve, int node, int what) {
            return ((curve * NODES + node) * 3 + what) * MAX_POINTS;
        }

        long number(int curve, int node, int what, int k) {
            int index = startOf(curve, node, what) + k;
            return index >= 0 && index < numbers.length ? numbers[index] : 0;
        }

        int extreme(int curve, int node, int side) {
            int index = (curve * NODES + node) * SIDES + side;
            return index >= 0 && index < extremes.length ? extremes[index] : 0;
        }

        int degreeOf(int curve) {
            return curve >= 0 && curve < degrees.length ? degrees[curve] : 0;
        }

        void grow(Figure figure, int curve, int depth) {
            if (curve < 0 || curve >= degrees.length || curve >= depths.length) {
                return;
            }
            if (!isPlanted(figure, curve)) {
                degrees[curve] = figure.top(curve);
                depths[curve] = 0;
                plant(figure, curve);
            }
            for (int level = depths[curve]; level < depth && level < MAX_DEPTH; level++) {
                growLevel(curve, level);
                depths[curve] = level + 1;
            }
        }

        private boolean isPlanted(Figure figure, int curve) {
            if (degreeOf(curve) != figure.top(curve)) {
                return false;
            }
            for (int k = 0; k < figure.size(curve); k++) {
                for (int what = X; what <= WEIGHT; what++) {
                    if (number(curve, 0, what, k) != homogeneous(figure, curve, k, what)) {
                        return false;
                    }
                }
            }
            return true;
        }

        private static long homogeneous(Figure figure, int curve, int k, int what) {
            int weight = figure.point(curve, k, WEIGHT);
            return what == WEIGHT ? weight : weight * figure.point(curve, k, what);
        }

        private void plant(Figure figure, int curve) {
            for (int k = 0; k < figure.size(curve); k++) {
                for (int what = X; what <= WEIGHT; what++) {
                    int index = startOf(curve, 0, what) + k;
                    if (index >= 0 && index < numbers.length) {
                        numbers[index] = homogeneous(figure, curve, k, what);
                    }
                }
            }
            findExtremes(curve, 0);
        }

        private void growLevel(int curve, int level) {
            int degree = degreeOf(curve);
            for (int cell = 0; cell < 1 << level; cell++) {
                int node = nodeOf(level, cell);
                for (int child = 2 * node + 1; child <= 2 * node + 2; child++) {
                    boolean second = child == 2 * node + 2;
                    for (int what = X; what <= WEIGHT; what++) {
                        halve(numbers, startOf(curve, node, what), startOf(curve, child, what), degree, second);
                    }
                    findExtremes(curve, child);
                }
            }
        }

        private void findExtremes(int curve, int node) {
            for (int side = 0; side < SIDES; side++) {
                int what = side % 2 == 0 ? X : Y;
                int best = 0;
                for (int k = 1; k <= degreeOf(curve); k++) {
                    long order = compare(curve, node, k, curve, node, best, what);
                    if (side < 2 ? order < 0 : order > 0) {
                        best = k;
                    }
                }
                int index = (curve * NODES + node) * SIDES + side;
                if (index >= 0 && index < extremes.length) {
                    extremes[index] = best;
                }
            }
        }

        /** Less than 0 if the place of the first control point lies before that of the second one. */
        private long compare(int curve, int node, int k, int other, int otherNode, int otherK, int what) {
            return number(curve, node, what, k) * number(other, otherNode, WEIGHT, otherK)
                - number(other, otherNode, what, otherK) * number(curve, node, WEIGHT, k);
        }

        boolean boxesMeet(int curve, int node, int other, int otherNode) {
            for (int what = X; what <= Y; what++) {
                int least = extreme(curve, node, what);
                int greatest = extreme(curve, node, 2 + what);
                int otherLeast = extreme(other, otherNode, what);
                int otherGreatest = extreme(other, otherNode, 2 + what);
                if (compare(curve, node, least, other, otherNode, otherGreatest, what) > 0
                    || compare(curve, node, greatest, other, otherNode, otherLeast, what) < 0) {
                    return false;
                }
            }
            return true;
        }
    }

    /** A curve and a line: the coefficients, those of cells below them, and the roots. */
    private static final class LineCut {
        /** A cubic has no more than three; there is room for every cell that could be told. */
        private static final int MAX_ROOTS = 8;

        /** The coefficients of one cell for each depth, those of the curve first. */
        private final long[] rows = new long[(MAX_LIMIT + 1) * MAX_POINTS];
        private final int[] kinds = new int[MAX_ROOTS];
        private final int[] depths = new int[MAX_ROOTS];
        private final int[] cells = new int[MAX_ROOTS];
        private int degree;
        private int roots;

        void begin(Figure figure, int curve, int line) {
            degree = figure.top(curve);
            for (int k = 0; k <= degree; k++) {
                replace(k, figure.cutNumber(curve, line, k));
            }
        }

        void replace(int k, long coefficientNumber) {
            if (k >= 0 && k < MAX_POINTS) {
                rows[k] = coefficientNumber;
            }
        }

        private long number(int depth, int k) {
            int index = depth * MAX_POINTS + k;
            return index >= 0 && index < rows.length ? rows[index] : 0;
        }

        boolean isAllZero() {
            for (int k = 0; k <= degree; k++) {
                if (number(0, k) != 0) {
                    return false;
                }
            }
            return true;
        }

        private void goDown(int depth, boolean second) {
            halve(rows, depth * MAX_POINTS, (depth + 1) * MAX_POINTS, degree, second);
        }

        private void goTo(int depth, int cell) {
            for (int level = 0; level < depth && level < MAX_LIMIT; level++) {
                goDown(level, (cell >> depth - 1 - level & 1) == 1);
            }
        }

        int changesOfCell(int depth, int cell) {
            goTo(depth, cell);
            return changesAt(depth);
        }

        private int changesAt(int depth) {
            int changes = 0;
            int before = 0;
            for (int k = 0; k <= degree; k++) {
                int sign = signOf(number(depth, k));
                if (sign != 0) {
                    if (sign == -before) {
                        changes++;
                    }
                    before = sign;
                }
            }
            return changes;
        }

        void findAll(int limit) {
            roots = 0;
            if (isAllZero()) {
                return;
            }
            if (number(0, 0) == 0) {
                add(EXACT, 0, 0);
            }
            search(this, 0, 0, limit);
            if (number(0, degree) == 0) {
                add(EXACT, 0, 1);
            }
        }

        private static void search(LineCut cut, int depth, int cell, int limit) {
            int changes = cut.changesAt(depth);
            if (changes == 0) {
                return;
            }
            if (changes == 1) {
                cut.add(ISOLATED, depth, cell);
                return;
            }
            if (depth >= limit || depth >= MAX_LIMIT) {
                cut.add(DOUBTFUL, depth, cell);
                return;
            }
            cut.goDown(depth, false);
            search(cut, depth + 1, 2 * cell, limit);
            cut.goDown(depth, true);
            if (cut.number(depth + 1, 0) == 0) {
                cut.add(EXACT, depth + 1, 2 * cell + 1);
            }
            search(cut, depth + 1, 2 * cell + 1, limit);
        }

        private void add(int kind, int depth, int cell) {
            if (roots >= 0 && roots < MAX_ROOTS) {
                kinds[roots] = kind;
                depths[roots] = depth;
                cells[roots] = cell;
                roots++;
            }
        }

        int size() {
            return roots;
        }

        int sizeOfKind(int kind) {
            int size = 0;
            for (int root = 0; root < roots; root++) {
                if (kindOf(root) == kind) {
                    size++;
                }
            }
            return size;
        }

        private boolean hasRoot(int root) {
            return root >= 0 && root < roots && root < MAX_ROOTS;
        }

        int kindOf(int root) {
            return hasRoot(root) ? kinds[root] : NOT_FOUND;
        }

        int depthOf(int root) {
            return hasRoot(root) ? depths[root] : NOT_FOUND;
        }

        int cellOf(int root) {
            return hasRoot(root) ? cells[root] : NOT_FOUND;
        }

        /** The cell of some depth in which an exact or isolated root is. */
        int cellAtDepth(int root, int depth) {
            int from = depthOf(root);
            int cell = cellOf(root);
            if (!isWithin(from, 0, MAX_LIMIT) || !isWithin(depth, 0, MAX_LIMIT)) {
                return NOT_FOUND;
            }
            if (depth <= from) {
                return cell >> from - depth;
            }
            if (kindOf(root) == EXACT) {
                return cell << depth - from;
            }
            return follow(from, cell, depth);
        }

        /** Halves an isolated root's cell again and again, keeping the half that has the root. */
        private int follow(int from, int start, int depth) {
            int cell = start;
            goTo(from, cell);
            for (int level = from; level < depth && level < MAX_LIMIT; level++) {
                // Without a sign change left, an earlier halving has come upon the root: it is at the start.
                boolean atStart = changesAt(level) == 0;
                goDown(level, false);
                boolean second = !atStart && changesAt(level + 1) == 0;
                if (second) {
                    goDown(level, true);
                }
                cell = 2 * cell + (second ? 1 : 0);
            }
            return cell;
        }

        boolean hasDoubleRoot() {
            long a = power(3);
            long b = power(2);
            long c = power(1);
            return a != 0 ? isCubicDouble(a, b, c, power(0)) : isQuadraticDouble(b, c, power(0));
        }

        /** The factor of t^k, by differences of the coefficients. */
        private long power(int k) {
            if (k > degree) {
                return 0;
            }
            switch (k) {
                case 0:
                    return number(0, 0);
                case 1:
                    return degree * (number(0, 1) - number(0, 0));
                case 2:
                    return (degree == 3 ? 3 : 1) * (number(0, 2) - 2 * number(0, 1) + number(0, 0));
                default:
                    return number(0, 3) - 3 * number(0, 2) + 3 * number(0, 1) - number(0, 0);
            }
        }

        private static boolean isQuadraticDouble(long a, long b, long c) {
            return a != 0 && b * b == 4 * a * c && isFraction(-b, 2 * a);
        }

        /** By the discriminant; a double root is rational, and so is a triple one. */
        private static boolean isCubicDouble(long a, long b, long c, long d) {
            long discriminant = 18 * a * b * c * d - 4 * b * b * b * d + b * b * c * c
                - 4 * a * c * c * c - 27 * a * a * d * d;
            if (discriminant != 0) {
                return false;
            }
            long spread = b * b - 3 * a * c;
            return spread == 0 ? isFraction(-b, 3 * a) : isFraction(9 * a * d - b * c, 2 * spread);
        }

        /** Whether above / below is from 0 to 1. */
        private static boolean isFraction(long above, long below) {
            return below > 0 ? above >= 0 && above <= below : above <= 0 && above >= below;
        }
    }

    /** The pairs of two curves as marks in a square, and the meetings made of them. */
    private static final class PairGrid {
        private static final int MAX_SIDE = 1 << MAX_DEPTH;
        private static final int NO_PAIR = -2;
        private static final int UNGROUPED = -1;

        /** For each two cells: no pair, a pair, or the meeting of the pair. */
        private final int[] marks = new int[MAX_SIDE * MAX_SIDE];
        private final int[] waiting = new int[MAX_SIDE * MAX_SIDE];
        private int waitingCount;
        private int depth;
        private int side;
        private int curve;
        private int other;

        private void prepare(int first, int second, int gridDepth) {
            depth = isWithin(gridDepth, 0, MAX_DEPTH) ? gridDepth : 0;
            side = 1 << depth;
            curve = first;
            other = second;
        }

        void mark(Cells cells, int first, int second, int gridDepth) {
            prepare(first, second, gridDepth);
            Arrays.fill(marks, NO_PAIR);
            markBelow(this, cells, 0, 0, 0);
        }

        private static void markBelow(PairGrid grid, Cells cells, int level, int cell, int otherCell) {
            if (!cells.boxesMeet(grid.curve, nodeOf(level, cell), grid.other, nodeOf(level, otherCell))) {
                return;
            }
            if (level >= grid.depth || level >= MAX_DEPTH) {
                grid.put(grid.indexOf(cell, otherCell), UNGROUPED);
                return;
            }
            markBelow(grid, cells, level + 1, 2 * cell, 2 * otherCell);
            markBelow(grid, cells, level + 1, 2 * cell, 2 * otherCell + 1);
            markBelow(grid, cells, level + 1, 2 * cell + 1, 2 * otherCell);
            markBelow(grid, cells, level + 1, 2 * cell + 1, 2 * otherCell + 1);
        }

        /** Whether there is a pair; the marks stay as they are. */
        boolean hasAny(Cells cells, int first, int second, int gridDepth) {
            prepare(first, second, gridDepth);
            return hasAnyBelow(this, cells, 0, 0, 0);
        }

        private static boolean hasAnyBelow(PairGrid grid, Cells cells, int level, int cell, int otherCell) {
            if (!cells.boxesMeet(grid.curve, nodeOf(level, cell), grid.other, nodeOf(level, otherCell))) {
                return false;
            }
            if (level >= grid.depth || level >= MAX_DEPTH) {
                return true;
            }
            return hasAnyBelow(grid, cells, level + 1, 2 * cell, 2 * otherCell)
                || hasAnyBelow(grid, cells, level + 1, 2 * cell, 2 * otherCell + 1)
                || hasAnyBelow(grid, cells, level + 1, 2 * cell + 1, 2 * otherCell)
                || hasAnyBelow(grid, cells, level + 1, 2 * cell + 1, 2 * otherCell + 1);
        }

        /** The place of two cells in the square, row by row; NOT_FOUND if they are not in it. */
        private int indexOf(int cell, int otherCell) {
            boolean inside = cell >= 0 && cell < side && otherCell >= 0 && otherCell < side;
            return inside ? cell * side + otherCell : NOT_FOUND;
        }

        private int at(int index) {
            return index >= 0 && index < marks.length ? marks[index] : NO_PAIR;
        }

        private void put(int index, int mark) {
            if (index >= 0 && index < marks.length) {
                marks[index] = mark;
            }
        }

        int size() {
            int pairs = 0;
            for (int index = 0; index < side * side; index++) {
                if (at(index) != NO_PAIR) {
                    pairs++;
                }
            }
            return pairs;
        }

        int pairAt(int k) {
            int pairs = 0;
            for (int index = 0; index < side * side; index++) {
                if (at(index) != NO_PAIR) {
                    if (pairs == k) {
                        return 100 * (index >> depth) + (index & side - 1);
                    }
                    pairs++;
                }
            }
            return NOT_FOUND;
        }

        /** Gives each pair its meeting, and tells how many meetings there are. */
        int group() {
            int meetings = 0;
            for (int index = 0; index < side * side; index++) {
                if (at(index) == UNGROUPED) {
                    spread(index, meetings);
                    meetings++;
                }
            }
            return meetings;
        }

        private void spread(int first, int meeting) {
            waitingCount = 0;
            join(first, meeting);
            for (int head = 0; head < waitingCount && head < waiting.length; head++) {
                int cell = waiting[head] >> depth;
                int otherCell = waiting[head] & side - 1;
                for (int row = cell - 1; row <= cell + 1; row++) {
                    for (int column = otherCell - 1; column <= otherCell + 1; column++) {
                        join(indexOf(row, column), meeting);
                    }
                }
            }
        }

        private void join(int index, int meeting) {
            if (at(index) == UNGROUPED && waitingCount >= 0 && waitingCount < waiting.length) {
                put(index, meeting);
                waiting[waitingCount] = index;
                waitingCount++;
            }
        }

        int meetingAt(int cell, int otherCell) {
            int mark = at(indexOf(cell, otherCell));
            return mark >= 0 ? mark : NOT_FOUND;
        }

        /** The least and the greatest cell of either curve, and the number of pairs, by what. */
        int meetingValue(int meeting, int what) {
            int least = MAX_SIDE;
            int greatest = NOT_FOUND;
            int pairs = 0;
            for (int index = 0; index < side * side; index++) {
                if (at(index) == meeting) {
                    int cell = what < 2 ? index >> depth : index & side - 1;
                    least = Math.min(least, cell);
                    greatest = Math.max(greatest, cell);
                    pairs++;
                }
            }
            if (what == 4) {
                return pairs;
            }
            return what % 2 == 0 ? least : greatest;
        }
    }

    /** The hull of one curve, wrapped corner by corner. */
    private static final class Hull {
        private final int[] corners = new int[MAX_POINTS];
        private int count;

        int size() {
            return count;
        }

        int corner(int k) {
            return k >= 0 && k < count && k < MAX_POINTS ? corners[k] : NOT_FOUND;
        }

        void wrap(Figure figure, int curve) {
            int first = leftmost(figure, curve);
            int corner = first;
            count = 0;
            for (int step = 0; step < MAX_POINTS; step++) {
                corners[step] = corner;
                count = step + 1;
                corner = cornerAfter(figure, curve, corner);
                if (corner == first || corner == NOT_FOUND) {
                    return;
                }
            }
        }

        private static int leftmost(Figure figure, int curve) {
            int best = 0;
            for (int k = 1; k < figure.size(curve); k++) {
                int x = figure.point(curve, k, X) - figure.point(curve, best, X);
                int y = figure.point(curve, k, Y) - figure.point(curve, best, Y);
                if (x < 0 || x == 0 && y < 0) {
                    best = k;
                }
            }
            return best;
        }

        /** NOT_FOUND if all control points are at one place. */
        private static int cornerAfter(Figure figure, int curve, int from) {
            int best = NOT_FOUND;
            for (int k = 0; k < figure.size(curve); k++) {
                if (distance(figure, curve, from, k) > 0 && (best == NOT_FOUND || isOutside(figure, curve, from, best, k))) {
                    best = k;
                }
            }
            return best;
        }

        /** Whether k lies to the right of the way to best, or farther on it. */
        private static boolean isOutside(Figure figure, int curve, int from, int best, int k) {
            int turn = figure.turn(curve, from, best, k);
            return turn < 0 || turn == 0 && distance(figure, curve, from, k) > distance(figure, curve, from, best);
        }

        private static int distance(Figure figure, int curve, int from, int to) {
            return Math.abs(figure.point(curve, to, X) - figure.point(curve, from, X))
                + Math.abs(figure.point(curve, to, Y) - figure.point(curve, from, Y));
        }
    }

    /** The band of one curve. */
    private static final class Band {
        private int x0;
        private int y0;
        private int width;
        private int height;
        private int low;
        private int high;

        void span(Figure figure, int curve) {
            int top = figure.top(curve);
            x0 = figure.point(curve, 0, X);
            y0 = figure.point(curve, 0, Y);
            width = figure.point(curve, top, X) - x0;
            height = figure.point(curve, top, Y) - y0;
            low = 0;
            high = 0;
            // The first control point has the number 0 itself.
            for (int k = 1; k <= top; k++) {
                int number = width * (figure.point(curve, k, Y) - y0) - height * (figure.point(curve, k, X) - x0);
                low = Math.min(low, number);
                high = Math.max(high, number);
            }
        }

        int low() {
            return low;
        }

        int high() {
            return high;
        }

        boolean clips(Cells cells, int curve, int node) {
            boolean above = true;
            boolean below = true;
            for (int k = 0; k <= cells.degreeOf(curve); k++) {
                long weight = cells.number(curve, node, WEIGHT, k);
                long number = width * (cells.number(curve, node, Y, k) - y0 * weight)
                    - height * (cells.number(curve, node, X, k) - x0 * weight);
                above = above && number > high * weight;
                below = below && number < low * weight;
            }
            return above || below;
        }
    }
}
