import java.util.function.IntBinaryOperator;

/** Promises 35 to 47 at their boundaries: bands, pairs, meetings, and two curves side by side. */
final class MeetingBoundaries {
    private static final long THROWS = Checks.THROWS;
    private static final int MIN = Integer.MIN_VALUE;
    private static final int MAX = Integer.MAX_VALUE;

    private MeetingBoundaries() {
    }

    static void run() {
        bands();
        bandEdges();
        bandsOneByOne();
        clippedCells();
        bandsInAllDirections();
        clippingDepths();
        boxesThatTouch();
        leastGaps();
        boxesOfWeights();
        pairRanges();
        pairDepths();
        greatestPairs();
        neighbours();
        corners();
        meetingRanges();
        meetingOrder();
        cellsOfMeetings();
        sameness();
        oneNumberOff();
        sharedEnds();
        near();
        nearest();
        indexes();
    }

    private static CurveMeetings two(String first, String second) {
        return Texts.of("curve a " + first + "; curve b " + second + ";");
    }

    // ---- bands ----

    private static void band(int low, int high, String points) {
        CurveMeetings x = Texts.of("curve a " + points + ";");
        Checks.says(35, "the least .. number of the places of its control points");
        Checks.due("bandLow of " + points, low, () -> x.bandLow(0));
        Checks.says(36, "the .. greatest number of the places of its control points");
        Checks.due("bandHigh of " + points, high, () -> x.bandHigh(0));
    }

    private static void bands() {
        band(0, 0, "3 4 1 17 9 2");
        band(0, 0, "0 0 1 20 20 1 10 10 1");
        band(0, 0, "5 5 1 5 5 1");
        band(0, 0, "5 5 1 20 0 1 0 19 1 5 5 1");
        band(0, 400, "0 0 1 20 20 1 20 0 1");
        band(-400, 0, "20 0 1 20 20 1 0 0 1");
        band(-400, 400, "0 20 1 20 20 1 0 0 1 20 0 1");
        band(0, 1, "0 0 1 1 1 1 20 19 1");
        band(-1, 0, "20 19 1 1 1 1 0 0 1");
        band(-1, 1, "0 0 1 1 1 1 19 18 1 20 19 1");
    }

    /** The band is that of y from 5 to 10; of a curve at one height all cells are left, or none. */
    private static void bandEdges() {
        for (int y = 0; y <= 20; y++) {
            boolean left = y >= 5 && y <= 10;
            CurveMeetings x = two("0 5 1 10 10 1 20 5 1", "0 " + y + " 1 7 " + y + " 2 20 " + y + " 3");
            Checks.says(37, "clips .. if the numbers .. are greater than the greatest one of the band, or .. less than the least one");
            Checks.due("firstLeft(1, 0) at the height " + y, left ? 0 : -1, () -> x.firstLeft(1, 0));
            Checks.says(38, "clips .. if the numbers .. are greater than the greatest one of the band, or .. less than the least one");
            Checks.due("lastLeft(1, 0) at the height " + y, left ? 15 : -1, () -> x.lastLeft(1, 0));
            x.reverse(0);
            Checks.due("lastLeft(1, 0) at the height " + y + ", reversed", left ? 15 : -1, () -> x.lastLeft(1, 0));
        }
    }

    /** The band of one curve says nothing of that of the next one. */
    private static void bandsOneByOne() {
        CurveMeetings x = Texts.of("curve a 0 20 1 20 20 1 0 0 1 20 0 1; curve b 0 0 1 20 20 1; curve c 0 0 1 1 0 1 1 1 1; curve d 0 0 1 0 1 1 1 1 1;");
        int[] curves = {0, 1, 2, 3, 1, 3, 0, 2, 1};
        Checks.says(35, "the least number, of one curve after another");
        Checks.dueAt("bandLow", curves, new long[] {-400, 0, -1, 0, 0, 0, -400, -1, 0}, k -> x.bandLow(k));
        Checks.says(36, "the greatest number, of one curve after another");
        Checks.dueAt("bandHigh", curves, new long[] {400, 0, 0, 1, 0, 1, 400, 0, 0}, k -> x.bandHigh(k));
        for (int curve = 0; curve < 4; curve++) {
            CurveMeetings y = Texts.of("curve a 0 20 1 20 20 1 0 0 1 20 0 1; curve b 0 0 1 20 20 1; curve c 0 0 1 1 0 1 1 1 1; curve d 0 0 1 0 1 1 1 1 1;");
            int at = curve;
            int want = new int[] {400, 0, 0, 1}[curve];
            Checks.due("bandHigh(" + at + ") alone", want, () -> y.bandHigh(at));
        }
    }

    private static void left(int first, int last, String band, String points, int depth) {
        CurveMeetings x = two(band, points);
        x.setSetting(1, depth);
        Checks.says(37, "the first cell .. that the band of another curve does not clip; NOT_FOUND if all are clipped");
        Checks.due("firstLeft(1, 0) of " + band + " and " + points + " at depth " + depth, first, () -> x.firstLeft(1, 0));
        Checks.says(38, "the last cell .. that the band of another curve does not clip; NOT_FOUND if all are clipped");
        Checks.due("lastLeft(1, 0) of " + band + " and " + points + " at depth " + depth, last, () -> x.lastLeft(1, 0));
    }

    private static void clippedCells() {
        String flat = "0 10 1 20 10 1";
        // Cells end at whole heights: one that touches the band with its end alone is left.
        left(0, 1, flat, "0 0 1 0 20 1", 1);
        left(1, 2, flat, "0 0 1 0 20 1", 2);
        left(31, 32, flat, "0 0 1 0 20 1", 6);
        left(31, 32, flat, "0 20 1 0 0 1", 6);
        left(0, 0, flat, "0 10 1 0 20 1", 6);
        left(63, 63, flat, "0 20 1 0 10 1", 6);
        left(63, 63, flat, "0 0 1 0 10 1", 6);
        left(-1, -1, flat, "0 11 1 0 20 1", 6);
        left(-1, -1, flat, "0 0 1 0 9 1", 6);
        // From 11 to 9 through it: some control points above and some below is not clipped.
        left(0, 1, flat, "0 11 1 0 9 1", 1);
        left(0, 0, flat, "0 11 1 0 8 1", 1);
        left(1, 1, flat, "0 12 1 0 9 1", 1);
        // A weight moves the middle to 15, to 10 or to 5.
        left(0, 0, flat, "0 0 1 0 20 3", 1);
        left(1, 1, flat, "0 0 3 0 20 1", 1);
        left(0, 1, flat, "0 5 1 0 20 1 0 5 1", 1);
        left(-1, -1, flat, "0 11 1 0 20 1 0 11 1", 3);
        // The control points of the first half are at 18, 10 and 10.5: one between the ends keeps the cell.
        left(0, 0, flat, "0 18 1 0 2 1 0 20 1", 1);
        left(-1, -1, flat, "0 18 1 0 3 1 0 20 1", 1);
        left(-1, -1, flat, "0 18 1 0 2 1 0 20 1", 2);
    }

    /** As much above or below the band as it can be, and not at all: a third at the middle of a short way. */
    private static void bandsInAllDirections() {
        String[] bands = {"0 10 1 1 10 1", "1 10 1 0 10 1"};
        for (String band : bands) {
            left(0, 0, band, "0 9 1 0 11 2", 1);
            left(1, 1, band, "0 9 2 0 11 1", 1);
            left(0, 0, band, "0 11 1 0 9 2", 1);
            left(1, 1, band, "0 11 2 0 9 1", 1);
            left(0, 1, band, "0 9 2 0 11 2", 1);
        }
        for (String band : new String[] {"10 0 1 10 1 1", "10 1 1 10 0 1"}) {
            left(0, 0, band, "9 0 1 11 0 2", 1);
            left(1, 1, band, "9 0 2 11 0 1", 1);
            left(0, 0, band, "11 20 1 9 20 2", 1);
            left(0, 1, band, "11 20 2 9 20 2", 1);
            left(0, 1, band, "10 20 1 10 3 2", 1);
            left(-1, -1, band, "11 0 1 11 20 2", 3);
            left(-1, -1, band, "9 0 1 9 20 2", 3);
        }
        // Bands that rise or fall: x = y, x + y = 20, and y from x to x + 2.
        for (String band : new String[] {"0 0 1 20 20 1", "20 20 1 0 0 1", "3 3 1 4 4 2"}) {
            left(0, 0, band, "9 10 1 11 10 2", 1);
            left(1, 1, band, "9 10 2 11 10 1", 1);
            left(0, 7, band, "0 0 1 17 17 3", 3);
            left(-1, -1, band, "0 1 1 19 20 1", 3);
            left(-1, -1, band, "1 0 1 20 19 1", 3);
            left(1, 2, band, "0 20 1 20 0 1", 2);
        }
        for (String band : new String[] {"0 20 1 20 0 1", "20 0 1 0 20 1", "11 9 1 12 8 3"}) {
            left(0, 0, band, "9 10 1 11 10 2", 1);
            left(0, 7, band, "3 17 1 17 3 3", 3);
            left(-1, -1, band, "0 19 1 19 0 1", 3);
            left(-1, -1, band, "1 20 1 20 1 1", 3);
            left(1, 2, band, "0 0 1 20 20 1", 2);
        }
        left(0, 7, "0 0 1 1 3 1 18 18 1", "2 4 1 16 18 1", 3);
        left(-1, -1, "0 0 1 1 3 1 18 18 1", "2 5 1 16 19 1", 3);
        left(0, 7, "0 0 1 1 3 1 18 18 1", "2 2 1 16 16 1", 3);
        left(-1, -1, "0 0 1 1 3 1 18 18 1", "2 1 1 16 15 1", 3);
    }

    private static void clippingDepths() {
        CurveMeetings x = two("0 10 1 20 10 1", "0 10 1 20 10 3");
        Checks.says(38, "of the depth DEPTH");
        for (int depth = 1; depth <= 6; depth++) {
            x.setSetting(1, depth);
            int last = (1 << depth) - 1;
            int at = depth;
            Checks.due("lastLeft(1, 0) at depth " + at, last, () -> x.lastLeft(1, 0));
            Checks.due("lastLeft(0, 0) at depth " + at + ", of itself", last, () -> x.lastLeft(0, 0));
        }
        Checks.says(37, "possibly the same");
        Checks.due("firstLeft(0, 0)", 0, () -> x.firstLeft(0, 0));
        Checks.due("firstLeft(1, 1)", 0, () -> x.firstLeft(1, 1));
        Checks.says(37, "a band whose first and last control points are at one place clips nothing");
        CurveMeetings loop = two("5 5 1 20 0 1 5 5 1", "0 20 1 20 19 1");
        Checks.due("firstLeft(1, 0)", 0, () -> loop.firstLeft(1, 0));
        Checks.due("lastLeft(1, 0)", 15, () -> loop.lastLeft(1, 0));
    }

    // ---- pairs ----

    /** All pairs at depth 1. */
    private static void pairs(String first, String second, int... want) {
        CurveMeetings x = two(first, second);
        x.setSetting(1, 1);
        Checks.says(39, "Boxes meet if they have a point in common");
        Checks.due("pairCount of " + first + " and " + second, want.length, () -> x.pairCount(0, 1));
        Checks.due("pairCount of " + second + " and " + first, want.length, () -> x.pairCount(1, 0));
        Checks.says(40, "Boxes meet if they have a point in common");
        for (int k = 0; k <= want.length; k++) {
            int at = k;
            Checks.due("pair " + k + " of " + first + " and " + second, k < want.length ? want[k] : -1, () -> x.pair(0, 1, at));
        }
    }

    private static void boxesThatTouch() {
        String square = "0 0 1 10 10 1";
        // At a corner: all four of them, and one off in each direction.
        pairs(square, "10 10 1 20 20 1", 100);
        pairs(square, "11 10 1 20 20 1");
        pairs(square, "10 11 1 20 20 1");
        pairs("10 10 1 20 20 1", square, 1);
        pairs("0 10 1 10 0 1", "10 0 1 20 20 1", 100);
        pairs("0 11 1 10 1 1", "10 0 1 20 0 1");
        pairs("10 0 1 0 10 1", "0 10 1 0 20 1", 100);
        pairs("10 0 1 1 10 1", "0 10 1 0 20 1");
        // Along a side, above, below, to the left and to the right.
        pairs("0 0 1 20 0 1", "5 0 1 5 20 1", 0);
        pairs("0 0 1 20 0 1", "5 1 1 5 20 1");
        pairs("0 20 1 20 20 1", "15 0 1 15 20 1", 101);
        pairs("0 20 1 20 20 1", "15 0 1 15 19 1");
        pairs("0 0 1 0 20 1", "0 5 1 20 5 1", 0);
        pairs("0 0 1 0 20 1", "1 5 1 20 5 1");
        pairs("20 0 1 20 20 1", "0 15 1 20 15 1", 101);
        pairs("20 0 1 20 20 1", "0 15 1 19 15 1");
        // At the middle both halves have the point.
        pairs("0 0 1 20 0 1", "10 0 1 10 20 1", 0, 100);
        pairs("0 0 1 20 0 1", "11 0 1 11 20 1", 100);
        pairs("0 0 1 20 0 1", "9 0 1 9 20 1", 0);
        // One inside of the other, or through it, without a side or an end in common.
        pairs("0 0 1 20 20 1", "3 4 1 4 3 1", 0, 1);
        pairs("3 4 1 4 3 1", "0 0 1 20 20 1", 0, 100);
        pairs("5 5 1 5 5 1", "5 5 1 5 5 1", 0, 1, 100, 101);
        pairs("5 5 1 5 5 1", "5 6 1 5 6 1");
        pairs("5 5 1 5 5 1", "6 5 1 6 5 1");
    }

    private static void boxesOfWeights() {
        // The middle of x is at 15 with these weights, at 5 the other way round.
        pairs("0 0 1 20 0 3", "15 0 1 15 20 1", 0, 100);
        pairs("0 0 1 20 0 3", "14 0 1 14 20 1", 0);
        pairs("0 0 1 20 0 3", "16 0 1 16 20 1", 100);
        pairs("0 0 3 20 0 1", "5 0 1 5 20 1", 0, 100);
        pairs("0 0 3 20 0 1", "6 0 1 6 20 1", 100);
        // The box is that of the control points of the cell: it reaches up to 20, the curve to 10.
        pairs("0 0 1 10 20 1 20 0 1", "0 10 1 20 10 1", 0, 1, 100, 101);
        pairs("0 0 1 10 20 1 20 0 1", "0 11 1 20 11 1");
        // The control points of the first half are (0, 0), (10, 0) and (10, 5): the second one is not on the curve.
        pairs("0 0 1 20 0 1 0 20 1", "10 0 1 20 0 1", 0);
        pairs("0 0 1 20 0 1 0 20 1", "11 0 1 20 0 1");
    }

    /** The halves of one curve come together at 2/3, or at 1/3, those of the other one at 1/2. */
    private static void leastGaps() {
        pairs("0 0 1 1 0 2", "0 0 1 1 0 1", 0, 1, 101);
        pairs("0 0 1 1 0 1", "0 0 1 1 0 2", 0, 100, 101);
        pairs("0 0 2 1 0 1", "0 0 1 1 0 1", 0, 100, 101);
        pairs("0 0 1 1 0 1", "0 0 2 1 0 1", 0, 1, 101);
        pairs("0 0 1 0 1 2", "0 0 1 0 1 1", 0, 1, 101);
        pairs("0 0 1 0 1 1", "0 0 1 0 1 2", 0, 100, 101);
        pairs("0 0 2 0 1 1", "0 0 1 0 1 1", 0, 100, 101);
        pairs("0 0 1 0 1 1", "0 0 2 0 1 1", 0, 1, 101);
        pairs("0 0 2 1 0 2", "0 0 1 1 0 1", 0, 1, 100, 101);
        pairs("0 0 3 0 1 3", "0 0 1 0 1 1", 0, 1, 100, 101);
    }

    private static void pairRanges() {
        Checks.says(40, "NOT_FOUND if there is no such pair");
        CurveMeetings x = Texts.of("curve a 0 0 1 20 20 1; curve b 0 20 1 20 0 1; curve c 0 0 1 0 0 1; curve d 5 20 1 5 20 1; set depth 2;");
        int[] k = {MIN, -1, 0, 1, 2, 3, 4, MAX};
        Checks.dueAt("pair(0, 1, k) of four", k, new long[] {-1, -1, 101, 102, 201, 202, -1, -1}, at -> x.pair(0, 1, at));
        Checks.dueAt("pair(0, 3, k) of none", k, new long[] {-1, -1, -1, -1, -1, -1, -1, -1}, at -> x.pair(0, 3, at));
        Checks.dueAt("pair(2, 0, k) of four", k, new long[] {-1, -1, 0, 100, 200, 300, -1, -1}, at -> x.pair(2, 0, at));
        Checks.says(40, "by ascending cell of the first one, then of the other one");
        Checks.dueAt("pair(0, 2, k) of four", k, new long[] {-1, -1, 0, 1, 2, 3, -1, -1}, at -> x.pair(0, 2, at));
        Checks.says(40, "possibly the same");
        Checks.dueAt("pair(0, 0, k) of ten", new int[] {0, 1, 2, 9, 10}, new long[] {0, 1, 100, 303, -1}, at -> x.pair(0, 0, at));
        Checks.says(39, "no pairs at all");
        Checks.due("pairCount(0, 3)", 0, () -> x.pairCount(0, 3));
    }

    /** Two lines that run side by side: at each depth they are pairs along the way, or no longer. */
    private static void pairDepths() {
        Checks.says(39, "both of the depth DEPTH (1 to 6)");
        CurveMeetings x = Texts.of("curve a 0 0 1 20 20 1; curve b 0 20 1 20 0 1; curve c 0 6 1 14 20 1;");
        long[] self = {4, 10, 22, 46, 94, 190};
        // c runs 6 above a at first: their boxes are apart as soon as they are small enough.
        for (int depth = 1; depth <= 6; depth++) {
            x.setSetting(1, depth);
            int at = depth;
            Checks.due("pairCount(0, 0) at depth " + at, self[depth - 1], () -> x.pairCount(0, 0));
            Checks.due("pairCount(0, 1) at depth " + at, 4, () -> x.pairCount(0, 1));
            Checks.due("pairCount(0, 2) is 0 at depth " + at, at > 2, () -> x.pairCount(0, 2) == 0);
        }
    }

    private static void greatestPairs() {
        CurveMeetings x = two("7 7 1 7 7 1", "7 7 3 7 7 2 7 7 1 7 7 1");
        x.setSetting(1, 6);
        Checks.says(39, "as many pairs as there can be");
        Checks.due("pairCount(0, 1)", 4096, () -> x.pairCount(0, 1));
        Checks.says(40, "100 times the cell of the curve plus that of the other one, at its greatest");
        Checks.dueAt("pair(0, 1, k)", new int[] {0, 63, 64, 4032, 4095, 4096}, new long[] {0, 63, 100, 6300, 6363, -1}, k -> x.pair(0, 1, k));
        Checks.says(41, "a meeting of all pairs that there can be");
        Checks.due("meetingCount(0, 1)", 1, () -> x.meetingCount(0, 1));
        Checks.says(43, "a meeting of all pairs that there can be");
        Checks.dueAt("meetingNumber(0, 1, 0, what)", new int[] {0, 1, 2, 3, 4}, new long[] {0, 63, 0, 63, 4096}, k -> x.meetingNumber(0, 1, 0, k));
        Checks.says(42, "a meeting of all pairs that there can be");
        Checks.due("meetingOf(0, 1, 0, 0)", 0, () -> x.meetingOf(0, 1, 0, 0));
        Checks.due("meetingOf(0, 1, 63, 63)", 0, () -> x.meetingOf(0, 1, 63, 63));
        x.movePoint(1, 0, 7, 8);
        x.movePoint(1, 1, 7, 8);
        x.movePoint(1, 2, 7, 8);
        x.movePoint(1, 3, 7, 8);
        Checks.says(39, "no pairs after as many as there can be");
        Checks.due("pairCount(0, 1)", 0, () -> x.pairCount(0, 1));
        Checks.says(41, "no meetings after one of all pairs");
        Checks.due("meetingCount(0, 1)", 0, () -> x.meetingCount(0, 1));
        Checks.says(42, "no meetings after one of all pairs");
        Checks.due("meetingOf(0, 1, 0, 0)", -1, () -> x.meetingOf(0, 1, 0, 0));
    }

    /**
     * At x = 10 the first curve has cells from 0 to 8.4, from 7.5 to 9.4, from 7.5 to 2.8 and from 2.8 to 0;
     * the other curve stands still at one height, so that each of its cells is a pair with the same ones.
     */
    private static CurveMeetings upAndDown(int y) {
        CurveMeetings x = two("10 0 1 10 20 1 10 0 1 10 0 1", "10 " + y + " 1 10 " + y + " 1");
        x.setSetting(1, 2);
        return x;
    }

    private static void neighbours() {
        Checks.says(41, "neighbours if the cells of the curve differ by at most 1, and those of the other one, too");
        CurveMeetings apart = upAndDown(7);
        Checks.dueAt("pair(0, 1, k), of the cells 0 and 2", new int[] {0, 3, 4, 7, 8}, new long[] {0, 3, 200, 203, -1}, k -> apart.pair(0, 1, k));
        Checks.due("meetingCount(0, 1) of cells that differ by 2", 2, () -> apart.meetingCount(0, 1));
        Checks.due("meetingCount(1, 0) of cells that differ by 2", 2, () -> apart.meetingCount(1, 0));
        CurveMeetings joined = upAndDown(8);
        Checks.dueAt("pair(0, 1, k), of the cells 0 and 1", new int[] {0, 3, 4, 7, 8}, new long[] {0, 3, 100, 103, -1}, k -> joined.pair(0, 1, k));
        Checks.due("meetingCount(0, 1) of cells that differ by 1", 1, () -> joined.meetingCount(0, 1));
        Checks.due("meetingCount(1, 0) of cells that differ by 1", 1, () -> joined.meetingCount(1, 0));
        CurveMeetings wide = upAndDown(2);
        Checks.due("meetingCount(0, 1) of the cells 0 and 3", 2, () -> wide.meetingCount(0, 1));
        Checks.says(43, "the least cell, the greatest one, the number of pairs of each");
        Checks.dueAt("meetingNumber(0, 1, 0, what)", new int[] {0, 1, 2, 3, 4}, new long[] {0, 0, 0, 3, 4}, k -> apart.meetingNumber(0, 1, 0, k));
        Checks.dueAt("meetingNumber(0, 1, 1, what)", new int[] {0, 1, 2, 3, 4}, new long[] {2, 2, 0, 3, 4}, k -> apart.meetingNumber(0, 1, 1, k));
        Checks.dueAt("meetingNumber(1, 0, 0, what)", new int[] {0, 1, 2, 3, 4}, new long[] {0, 3, 0, 0, 4}, k -> apart.meetingNumber(1, 0, 0, k));
        Checks.dueAt("meetingNumber(1, 0, 1, what)", new int[] {0, 1, 2, 3, 4}, new long[] {0, 3, 2, 2, 4}, k -> apart.meetingNumber(1, 0, 1, k));
        Checks.dueAt("meetingNumber(0, 1, 0, what)", new int[] {0, 1, 2, 3, 4}, new long[] {0, 1, 0, 3, 8}, k -> joined.meetingNumber(0, 1, 0, k));
        Checks.says(42, "the meeting to which a pair belongs, of cells that differ by 2");
        Checks.dueAt("meetingOf(0, 1, cell, 3)", new int[] {0, 1, 2, 3}, new long[] {0, -1, 1, -1}, k -> apart.meetingOf(0, 1, k, 3));
        Checks.dueAt("meetingOf(1, 0, 3, cell)", new int[] {0, 1, 2, 3}, new long[] {0, -1, 1, -1}, k -> apart.meetingOf(1, 0, 3, k));
    }

    /** Pairs that are neighbours at a corner alone, in either direction. */
    private static void corners() {
        Checks.says(41, "neighbours if both differ by 1");
        CurveMeetings x = two("16 1 1 8 14 1 16 18 1", "19 6 1 4 17 1 9 3 1");
        x.setSetting(1, 3);
        Checks.dueAt("pair(0, 1, k)", new int[] {0, 1, 2}, new long[] {201, 302, -1}, k -> x.pair(0, 1, k));
        Checks.due("meetingCount(0, 1) of (2, 1) and (3, 2)", 1, () -> x.meetingCount(0, 1));
        Checks.due("meetingCount(1, 0) of (1, 2) and (2, 3)", 1, () -> x.meetingCount(1, 0));
        x.reverse(1);
        Checks.dueAt("pair(0, 1, k)", new int[] {0, 1, 2}, new long[] {206, 305, -1}, k -> x.pair(0, 1, k));
        Checks.due("meetingCount(0, 1) of (2, 6) and (3, 5)", 1, () -> x.meetingCount(0, 1));
        Checks.due("meetingCount(1, 0) of (5, 3) and (6, 2)", 1, () -> x.meetingCount(1, 0));
        CurveMeetings y = two("14 3 1 16 14 1", "18 19 1 15 8 1");
        y.setSetting(1, 3);
        Checks.dueAt("pair(0, 1, k)", new int[] {0, 1, 2, 3, 4}, new long[] {307, 407, 506, 605, -1}, k -> y.pair(0, 1, k));
        Checks.due("meetingCount(0, 1) of four", 1, () -> y.meetingCount(0, 1));
    }

    private static void meetingRanges() {
        CurveMeetings x = upAndDown(7);
        int[] cells = {MIN, -2, -1, 0, 1, 2, 3, 4, 5, 8, 12, MAX};
        Checks.says(42, "NOT_FOUND if these cells are no pair");
        Checks.dueAt("meetingOf(0, 1, cell, 0)", cells, new long[] {-1, -1, -1, 0, -1, 1, -1, -1, -1, -1, -1, -1}, k -> x.meetingOf(0, 1, k, 0));
        Checks.dueAt("meetingOf(0, 1, 0, cell)", cells, new long[] {-1, -1, -1, 0, 0, 0, 0, -1, -1, -1, -1, -1}, k -> x.meetingOf(0, 1, 0, k));
        Checks.dueAt("meetingOf(0, 1, 1, cell)", cells, new long[] {-1, -1, -1, -1, -1, -1, -1, -1, -1, -1, -1, -1}, k -> x.meetingOf(0, 1, 1, k));
        Checks.dueAt("meetingOf(0, 1, 2, cell)", cells, new long[] {-1, -1, -1, 1, 1, 1, 1, -1, -1, -1, -1, -1}, k -> x.meetingOf(0, 1, 2, k));
        Checks.due("meetingOf(0, 1, MAX, MAX)", -1, () -> x.meetingOf(0, 1, MAX, MAX));
        Checks.due("meetingOf(0, 1, MIN, MIN)", -1, () -> x.meetingOf(0, 1, MIN, MIN));
        Checks.due("meetingOf(0, 1, 1 << 30, 0)", -1, () -> x.meetingOf(0, 1, 1 << 30, 0));
        int[] meetings = {MIN, -1, 0, 1, 2, 3, MAX};
        int[] whats = {MIN, -1, 0, 1, 2, 3, 4, 5, MAX};
        Checks.says(43, "NOT_FOUND if there is no such meeting");
        Checks.dueAt("meetingNumber(0, 1, meeting, 0)", meetings, new long[] {-1, -1, 0, 2, -1, -1, -1}, k -> x.meetingNumber(0, 1, k, 0));
        Checks.says(43, "BAD_VALUE for any other what");
        Checks.dueAt("meetingNumber(0, 1, 1, what)", whats, new long[] {-2, -2, 2, 2, 0, 3, 4, -2, -2}, k -> x.meetingNumber(0, 1, 1, k));
        Checks.says(43, "(checked first)");
        Checks.dueForAll("meetingNumber(0, 1, 2, what)", whats, -1, k -> x.meetingNumber(0, 1, 2, k));
        Checks.dueForAll("meetingNumber(0, 1, -1, what)", whats, -1, k -> x.meetingNumber(0, 1, -1, k));
        Checks.says(41, "no meetings");
        CurveMeetings none = upAndDown(20);
        Checks.due("meetingCount(0, 1)", 0, () -> none.meetingCount(0, 1));
        Checks.says(43, "no meetings");
        Checks.dueForAll("meetingNumber(0, 1, meeting, 9)", meetings, -1, k -> none.meetingNumber(0, 1, k, 9));
    }

    private static void meetingOrder() {
        Checks.says(42, "meetings are indexed from 0 in the order of their first pairs");
        // The ends of an arch meet a low line: the first end with its last cells, the last end with its first ones.
        CurveMeetings x = two("0 0 1 10 20 1 20 0 1", "20 1 1 0 1 1");
        Checks.dueAt("meetingOf(0, 1, cell, 15)", new int[] {0, 15}, new long[] {0, -1}, k -> x.meetingOf(0, 1, k, 15));
        Checks.dueAt("meetingOf(0, 1, cell, 0)", new int[] {0, 15}, new long[] {-1, 1}, k -> x.meetingOf(0, 1, k, 0));
        Checks.dueAt("meetingOf(1, 0, cell, 0)", new int[] {0, 15}, new long[] {-1, 1}, k -> x.meetingOf(1, 0, k, 0));
        Checks.dueAt("meetingOf(1, 0, cell, 15)", new int[] {0, 15}, new long[] {0, -1}, k -> x.meetingOf(1, 0, k, 15));
        // Of two first pairs with the same cell of the curve the lesser other cell comes first.
        CurveMeetings y = upAndDown(7);
        Checks.dueAt("meetingOf(1, 0, 0, cell)", new int[] {0, 2}, new long[] {0, 1}, k -> y.meetingOf(1, 0, 0, k));
        y.reverse(0);
        Checks.dueAt("meetingOf(1, 0, 0, cell) reversed", new int[] {1, 3}, new long[] {0, 1}, k -> y.meetingOf(1, 0, 0, k));
    }

    /** Pairs at opposite corners of the square of all cells: nothing leads round its edges. */
    private static void cellsOfMeetings() {
        Checks.says(41, "cells at the edges: the last and the first one are no neighbours");
        CurveMeetings x = two("0 0 1 20 0 1", "20 0 1 0 20 1 0 0 1");
        for (int depth = 1; depth <= 6; depth++) {
            x.setSetting(1, depth);
            int at = depth;
            int last = (1 << depth) - 1;
            Checks.due("meetingCount(0, 1) of ends crosswise at depth " + at, at == 1 ? 1 : 2, () -> x.meetingCount(0, 1));
            Checks.due("meetingOf(0, 1, 0, last) at depth " + at, 0, () -> x.meetingOf(0, 1, 0, last));
            Checks.due("meetingOf(0, 1, last, 0) at depth " + at, at == 1 ? 0 : 1, () -> x.meetingOf(0, 1, last, 0));
        }
    }

    // ---- two curves ----

    private static void same(int want, String first, String second) {
        CurveMeetings x = two(first, second);
        Checks.due("sameness of " + first + " and " + second, want, () -> x.sameness(0, 1));
        Checks.due("sameness of " + second + " and " + first, want, () -> x.sameness(1, 0));
    }

    private static void sameness() {
        Checks.says(44, "1 if they have the same control points in the same order and weights in proportion");
        String[] equal = {"0 1 1 2 3 1 4 5 1", "0 1 2 2 3 2 4 5 2", "0 1 3 2 3 3 4 5 3"};
        String[] opposite = {"4 5 1 2 3 1 0 1 1", "4 5 2 2 3 2 0 1 2", "4 5 3 2 3 3 0 1 3"};
        for (int k = 0; k < 3; k++) {
            for (int j = 0; j < 3; j++) {
                same(1, equal[k], equal[j]);
                same(2, equal[k], opposite[j]);
            }
        }
        same(1, "0 1 1 2 3 2 4 5 3", "0 1 1 2 3 2 4 5 3");
        Checks.says(44, "otherwise 2 if that is so with one of them in opposite order");
        same(2, "0 1 1 2 3 2 4 5 3", "4 5 3 2 3 2 0 1 1");
        same(2, "0 0 1 5 6 2", "5 6 2 0 0 1");
        same(0, "0 1 1 2 3 2 4 5 3", "4 5 1 2 3 2 0 1 3");
        same(0, "0 0 1 5 6 2", "5 6 1 0 0 2");
        Checks.says(44, "1 .. otherwise 2: both orders alike");
        same(1, "0 1 1 2 3 2 0 1 1", "0 1 1 2 3 2 0 1 1");
        same(1, "5 5 1 5 5 1", "5 5 2 5 5 2");
        Checks.says(44, "otherwise 0");
        same(0, "0 0 1 5 6 1", "0 0 1 5 6 2");
        same(0, "0 0 1 5 6 2", "0 0 2 5 6 3");
        same(0, "0 0 1 5 6 2", "0 0 2 5 6 1");
        same(0, "5 5 1 5 5 2", "5 5 2 5 5 2");
        same(2, "5 5 1 5 5 2", "5 5 2 5 5 1");
        same(0, "0 1 1 2 3 1", "0 1 1 2 3 1 4 5 1");
        same(0, "2 3 1 4 5 1", "0 1 1 2 3 1 4 5 1");
        same(0, "5 5 1 5 5 1", "5 5 1 5 5 1 5 5 1");
        Checks.says(44, "possibly the same");
        CurveMeetings x = two("0 1 1 2 3 2 4 5 3", "0 0 1 0 0 3");
        Checks.due("sameness(0, 0)", 1, () -> x.sameness(0, 0));
        Checks.due("sameness(1, 1)", 1, () -> x.sameness(1, 1));
    }

    /** A curve and one that differs in one number alone are not the same, in whatever order. */
    private static void oneNumberOff() {
        Checks.says(44, "the same control points: each number of each counts");
        int[] numbers = {0, 1, 1, 3, 7, 2, 9, 5, 3, 2, 8, 2};
        for (int off = -1; off < numbers.length; off++) {
            StringBuilder same = new StringBuilder();
            StringBuilder forwards = new StringBuilder();
            StringBuilder backwards = new StringBuilder();
            for (int k = 0; k < numbers.length; k++) {
                int back = numbers.length - 3 - k / 3 * 3 + k % 3;
                same.append(numbers[k]).append(' ');
                forwards.append(other(numbers, k, off)).append(' ');
                backwards.append(other(numbers, back, off)).append(' ');
            }
            same(off < 0 ? 1 : 0, same.toString(), forwards.toString());
            same(off < 0 ? 2 : 0, same.toString(), backwards.toString());
        }
    }

    private static int other(int[] numbers, int k, int off) {
        if (k != off) {
            return numbers[k];
        }
        return k % 3 == 2 ? numbers[k] % 3 + 1 : numbers[k] + 1;
    }

    private static void shared(int want, String first, String second) {
        CurveMeetings x = two(first, second);
        Checks.due("sharedEnds of " + first + " and " + second, want, () -> x.sharedEnds(0, 1));
        int back = want & 9 | want << 1 & 4 | want >> 1 & 2;
        Checks.due("sharedEnds of " + second + " and " + first, back, () -> x.sharedEnds(1, 0));
    }

    private static void sharedEnds() {
        Checks.says(45, "the sum of 1 .., 2 .., 4 .., 8");
        String[] places = {"1 2", "3 4", "5 6", "7 8"};
        for (int bits = 0; bits < 16; bits++) {
            // The other's ends are at the first end, the last one, or elsewhere.
            String first = (bits & 1) > 0 ? places[0] : (bits & 4) > 0 ? places[1] : places[2];
            String last = (bits & 2) > 0 ? places[0] : (bits & 8) > 0 ? places[1] : places[3];
            boolean possible = (bits & 5) != 5 && (bits & 10) != 10;
            if (possible) {
                shared(bits, places[0] + " 1 " + places[1] + " 2", first + " 3 " + last + " 1");
            }
        }
        shared(15, "5 5 1 0 0 1 5 5 1", "5 5 1 5 5 3");
        shared(5, "5 5 1 5 5 1", "5 5 1 6 5 1");
        shared(10, "5 5 1 5 5 1", "5 6 1 5 5 1");
        Checks.says(45, "at the same place: both x and y");
        shared(0, "1 2 1 3 4 1", "1 3 1 3 5 1");
        shared(0, "1 2 1 3 4 1", "2 2 1 4 4 1");
        shared(0, "1 2 1 3 4 1", "2 1 1 4 3 1");
        Checks.says(45, "ends, not the control points between them");
        shared(0, "1 2 1 5 5 1 3 4 1", "5 5 1 5 5 1");
        shared(9, "1 2 1 5 5 1 3 4 1", "1 2 3 3 4 2");
        Checks.says(45, "possibly the same");
        CurveMeetings x = two("1 2 1 3 4 1", "5 5 1 0 0 1 5 5 1");
        Checks.due("sharedEnds(0, 0)", 9, () -> x.sharedEnds(0, 0));
        Checks.due("sharedEnds(1, 1)", 15, () -> x.sharedEnds(1, 1));
    }

    /** Eight curves at places of their own, some of them together. */
    private static CurveMeetings eight(int... places) {
        StringBuilder text = new StringBuilder();
        for (int k = 0; k < 8; k++) {
            String place = places[k] + " " + places[k];
            text.append("curve ").append((char) ('a' + k)).append(' ').append(place).append(" 1 ").append(place).append(" 1;");
        }
        return Texts.of(text.append("set depth 1;").toString());
    }

    private static void near() {
        Checks.says(46, "the other curves with which a curve has a pair, as a bit set");
        CurveMeetings x = eight(3, 3, 3, 3, 3, 3, 3, 3);
        int[] curves = {0, 1, 2, 3, 4, 5, 6, 7};
        Checks.dueAt("curvesNear of eight at one place", curves, new long[] {254, 253, 251, 247, 239, 223, 191, 127}, k -> x.curvesNear(k));
        CurveMeetings y = eight(0, 1, 2, 3, 4, 5, 6, 7);
        Checks.dueForAll("curvesNear of eight apart", curves, 0, k -> y.curvesNear(k));
        CurveMeetings z = eight(0, 1, 2, 3, 4, 5, 6, 0);
        Checks.dueAt("curvesNear of the first and the last together", curves, new long[] {128, 0, 0, 0, 0, 0, 0, 1}, k -> z.curvesNear(k));
        Checks.due("curvesNear of one curve alone", 0, () -> Texts.of("curve a 0 0 1 1 1 1;").curvesNear(0));
        Checks.says(46, "a pair at the depth DEPTH");
        CurveMeetings parts = two("0 0 1 20 20 1", "0 6 1 14 20 1");
        for (int depth = 1; depth <= 6; depth++) {
            parts.setSetting(1, depth);
            int at = depth;
            Checks.due("curvesNear(0) at depth " + at, at <= 2 ? 2 : 0, () -> parts.curvesNear(0));
        }
        for (int depth = 6; depth >= 1; depth--) {
            parts.setSetting(1, depth);
            int at = depth;
            Checks.due("curvesNear(0) at depth " + at + " after greater ones", at <= 2 ? 2 : 0, () -> parts.curvesNear(0));
            Checks.due("pairCount(0, 1) is 0 at depth " + at + " after greater ones", at > 2, () -> parts.pairCount(0, 1) == 0);
            Checks.due("busiestCurve() at depth " + at + " after greater ones", 0, () -> parts.busiestCurve());
        }
        Checks.says(46, "a pair in whichever cells");
        String[] ends = {"9 9 1 20 20 1", "20 20 1 9 9 1"};
        String[] others = {"9 9 1 0 0 1", "0 0 1 9 9 1", "8 9 1 0 0 1", "0 0 1 8 9 1", "9 8 1 0 0 1", "0 0 1 9 8 1"};
        for (String end : ends) {
            for (int k = 0; k < others.length; k++) {
                long there = k < 2 ? 1 : 0;
                for (int depth = 1; depth <= 6; depth++) {
                    CurveMeetings touching = two(end, others[k]);
                    touching.setSetting(1, depth);
                    String what = end + " and " + others[k] + " at depth " + depth;
                    Checks.due("curvesNear(0) of " + what, 2 * there, () -> touching.curvesNear(0));
                    Checks.due("curvesNear(1) of " + what, there, () -> touching.curvesNear(1));
                    Checks.due("pairCount(0, 1) of " + what, there, () -> touching.pairCount(0, 1));
                }
            }
        }
        // A crossing in one cell of each, whichever these are.
        for (int place = 0; place < 400; place++) {
            int x0 = place % 20;
            int y0 = place / 20;
            CurveMeetings cross = two("0 " + y0 + " 1 20 " + y0 + " 1", x0 + " 0 1 " + x0 + " 20 1");
            cross.setSetting(1, 6);
            Checks.due("curvesNear(0) of a crossing at " + x0 + ", " + y0, 2, () -> cross.curvesNear(0));
            Checks.due("curvesNear(1) of a crossing at " + x0 + ", " + y0, 1, () -> cross.curvesNear(1));
        }
        // In the middle of the one, where its boxes are small, or at a side of a long one.
        for (int place = 0; place <= 20; place++) {
            CurveMeetings across = two("0 0 1 20 20 1", "0 " + place + " 1 20 " + place + " 1");
            CurveMeetings beside = two("0 3 1 20 17 2", place + " 0 1 " + place + " 2 1");
            across.setSetting(1, 6);
            beside.setSetting(1, 6);
            Checks.due("curvesNear(0) of a line at the height " + place, 2, () -> across.curvesNear(0));
            Checks.due("curvesNear(1) of a line at the height " + place, 1, () -> across.curvesNear(1));
            Checks.due("curvesNear(0) of a line below at " + place, 0, () -> beside.curvesNear(0));
            Checks.due("curvesNear(1) of a line below at " + place, 0, () -> beside.curvesNear(1));
        }
        Checks.says(46, "IndexOutOfBoundsException if curve is not a valid index");
        Checks.dueAt("curvesNear", new int[] {MIN, -1, 0, 7, 8, MAX}, new long[] {THROWS, THROWS, 254, 127, THROWS, THROWS}, k -> x.curvesNear(k));
    }

    private static void nearest() {
        Checks.says(47, "NOT_FOUND if there are no curves");
        Checks.due("busiestCurve() of nothing", -1, () -> new CurveMeetings().busiestCurve());
        Checks.due("busiestCurve() of lines alone", -1, () -> Texts.of("line l 1 1 1;").busiestCurve());
        Checks.due("busiestCurve() of one curve", 0, () -> Texts.of("curve a 0 0 1 1 1 1;").busiestCurve());
        Checks.says(47, "Ties are broken by lower index");
        Checks.due("busiestCurve() of eight apart", 0, () -> eight(0, 1, 2, 3, 4, 5, 6, 7).busiestCurve());
        Checks.due("busiestCurve() of eight at one place", 0, () -> eight(3, 3, 3, 3, 3, 3, 3, 3).busiestCurve());
        Checks.due("busiestCurve() of the last two", 6, () -> eight(0, 1, 2, 3, 4, 5, 6, 6).busiestCurve());
        Checks.due("busiestCurve() of two and two", 1, () -> eight(0, 1, 2, 1, 2, 5, 6, 7).busiestCurve());
        Checks.says(47, "pairs with the most other curves");
        Checks.due("busiestCurve() of two and three", 1, () -> eight(0, 1, 0, 1, 4, 5, 6, 1).busiestCurve());
        // The last curve goes from one place to another and meets both; each of the others meets one.
        CurveMeetings x = eight(0, 1, 2, 3, 4, 5, 6, 7);
        x.movePoint(7, 0, 6, 6);
        Checks.due("busiestCurve() of a tie with the last one", 6, () -> x.busiestCurve());
        x.movePoint(7, 1, 5, 5);
        Checks.due("busiestCurve(), the last one", 7, () -> x.busiestCurve());
    }

    // ---- wrong indexes ----

    private static void throwing(int promise, String name, CurveMeetings x, IntBinaryOperator call) {
        Checks.says(promise, "IndexOutOfBoundsException if curve or other is not a valid index (checked first)");
        for (int wrong : new int[] {MIN, -1, 2, 3, 8, MAX}) {
            Checks.due(name + "(" + wrong + ", 0, ..)", THROWS, () -> call.applyAsInt(wrong, 0));
            Checks.due(name + "(0, " + wrong + ", ..)", THROWS, () -> call.applyAsInt(0, wrong));
            Checks.due(name + "(1, " + wrong + ", ..)", THROWS, () -> call.applyAsInt(1, wrong));
            Checks.due(name + "(" + wrong + ", " + wrong + ", ..)", THROWS, () -> call.applyAsInt(wrong, wrong));
        }
    }

    private static void indexes() {
        CurveMeetings x = two("0 0 1 1 1 1", "2 2 1 3 3 1");
        throwing(37, "firstLeft", x, (a, b) -> x.firstLeft(a, b));
        throwing(38, "lastLeft", x, (a, b) -> x.lastLeft(a, b));
        throwing(39, "pairCount", x, (a, b) -> x.pairCount(a, b));
        throwing(40, "pair", x, (a, b) -> x.pair(a, b, -1));
        throwing(41, "meetingCount", x, (a, b) -> x.meetingCount(a, b));
        throwing(42, "meetingOf", x, (a, b) -> x.meetingOf(a, b, -1, -1));
        throwing(43, "meetingNumber", x, (a, b) -> x.meetingNumber(a, b, -1, 9));
        throwing(44, "sameness", x, (a, b) -> x.sameness(a, b));
        throwing(45, "sharedEnds", x, (a, b) -> x.sharedEnds(a, b));
        Checks.says(35, "IndexOutOfBoundsException if curve is not a valid index");
        int[] curves = {MIN, -1, 0, 1, 2, MAX};
        long[] zeros = {THROWS, THROWS, 0, 0, THROWS, THROWS};
        Checks.dueAt("bandLow", curves, zeros, k -> x.bandLow(k));
        Checks.says(36, "IndexOutOfBoundsException if curve is not a valid index");
        Checks.dueAt("bandHigh", curves, zeros, k -> x.bandHigh(k));
        CurveMeetings most = eight(3, 3, 3, 3, 3, 3, 3, 3);
        Checks.says(39, "the last valid indexes");
        Checks.due("pairCount(7, 7)", 4, () -> most.pairCount(7, 7));
        Checks.due("pairCount(0, 7)", 4, () -> most.pairCount(0, 7));
        Checks.due("pairCount(7, 8)", THROWS, () -> most.pairCount(7, 8));
        Checks.due("pairCount(8, 7)", THROWS, () -> most.pairCount(8, 7));
    }
}
