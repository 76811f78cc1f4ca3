/** Every question answers the same, whatever was asked before it. */
final class AloneTest {
    /**
     * a has the coefficients 0 1 -1 0 with the first line, b 9 -3 1 and so 3/4 twice; c goes up and down at x = 10,
     * and meets d in two of its four cells that lie apart, e in two that do not.
     */
    private static final String TEXT = "curve a 0 10 1 1 11 1 2 9 1 3 10 1; curve b 0 19 1 1 7 1 2 11 1; curve c 10 0 1 10 20 1 10 0 1 10 0 1;"
        + "curve d 10 7 1 10 7 1; curve e 10 8 1 10 8 1; line m 0 1 -10; line n 1 1 100; set depth 2;";

    private interface Question {
        long of(CurveMeetings x);
    }

    private static final Question[] QUESTIONS = {
        x -> x.curveCount(), x -> x.lineCount(), x -> x.undoCount(), x -> x.curveNamed(2 << 25), x -> x.lineNamed(14 << 25), x -> x.getSetting(1),
        x -> x.degree(1), x -> x.control(1, 1, 1), x -> x.lineNumber(1, 2), x -> x.cellControl(0, 0, 0, 0, 1), x -> x.cellControl(1, 1, 0, 2, 1),
        x -> x.placeNumerator(1, 1, 1, 1), x -> x.placeDenominator(0, 1, 1, 0), x -> x.boxSide(1, 0, 0, 3), x -> x.boxSide(0, 0, 0, 1),
        x -> x.isStraight(2) ? 1 : 0, x -> x.isStraight(1) ? 1 : 0, x -> x.hullSize(0), x -> x.hullSize(1), x -> x.hullCorner(0, 3), x -> x.hullCorner(1, 2),
        x -> x.hullCorner(2, 2), x -> x.coefficient(1, 0, 1), x -> x.signChanges(1, 0, 1, 1), x -> x.signChanges(0, 0, 1, 1), x -> x.isOn(0, 0) ? 1 : 0,
        x -> x.sideOf(1, 0, 1), x -> x.rootCount(0, 0), x -> x.rootCount(1, 0), x -> x.rootCount(0, 1), x -> x.rootsOf(0, 0, 0), x -> x.rootsOf(1, 0, 1),
        x -> x.rootKind(0, 0, 1), x -> x.rootKind(1, 0, 0), x -> x.rootKind(0, 1, 0), x -> x.rootDepth(0, 0, 2), x -> x.rootDepth(1, 0, 0),
        x -> x.rootCell(0, 0, 2), x -> x.rootCell(1, 0, 0), x -> x.rootCell(1, 1, 0), x -> x.refined(0, 0, 1, 3), x -> x.refined(1, 0, 0, 3),
        x -> x.refined(0, 1, 0, 3), x -> x.isTangent(0, 0) ? 1 : 0, x -> x.isTangent(1, 0) ? 1 : 0, x -> x.linesMet(0), x -> x.linesMet(2),
        x -> x.curvesMet(0), x -> x.curvesMet(1), x -> x.busiestLine(), x -> x.bandLow(0), x -> x.bandLow(1), x -> x.bandHigh(0), x -> x.bandHigh(1),
        x -> x.firstLeft(2, 0), x -> x.firstLeft(2, 1), x -> x.firstLeft(2, 3), x -> x.lastLeft(2, 0), x -> x.lastLeft(2, 1), x -> x.lastLeft(2, 3),
        x -> x.pairCount(2, 3), x -> x.pairCount(3, 4), x -> x.pair(2, 3, 4), x -> x.pair(2, 4, 4), x -> x.meetingCount(2, 3), x -> x.meetingCount(2, 4),
        x -> x.meetingOf(2, 3, 2, 0), x -> x.meetingOf(2, 4, 2, 0), x -> x.meetingNumber(2, 3, 1, 0), x -> x.meetingNumber(2, 4, 0, 4),
        x -> x.sameness(3, 3), x -> x.sameness(3, 4), x -> x.sharedEnds(3, 3), x -> x.sharedEnds(2, 3), x -> x.curvesNear(0), x -> x.curvesNear(2),
        x -> x.curvesNear(3), x -> x.busiestCurve(), x -> x.rootsIfMoved(1, 0, 1, 1, 10), x -> x.rootsIfMoved(0, 0, 2, 2, 11), x -> x.errorPosition()};
    private static final int[] PROMISES = {
        5, 6, 7, 8, 9, 10,
        11, 12, 13, 14, 14,
        15, 16, 17, 17,
        18, 18, 19, 19, 20, 20,
        20, 21, 22, 22, 23,
        24, 25, 25, 25, 26, 26,
        27, 27, 27, 28, 28,
        29, 29, 29, 30, 30,
        30, 31, 31, 32, 32,
        33, 33, 34, 35, 35, 36, 36,
        37, 37, 37, 38, 38, 38,
        39, 39, 40, 40, 41, 41,
        42, 42, 43, 43,
        44, 44, 45, 45, 46, 46,
        46, 47, 48, 48, 4};
    private static final long[] ANSWERS = {
        5, 2, 0, 1, 1, 2,
        2, 7, 100, 10, 44,
        11, 2, 1900, 900,
        1, 0, 4, 3, 1, 2,
        -1, -3, 2, 0, 0,
        1, 3, 1, 0, 2, 0,
        1, 0, -1, 0, 2,
        1, 3, -1, 4, 6,
        -1, 0, 1, 1, 0,
        3, 0, 0, -3, -16, 3, 0,
        1, -1, 0, 1, -1, 3,
        8, 0, 200, 100, 2, 1,
        1, -1, 2, 8,
        1, 0, 15, 0, 2, 24,
        4, 2, 0, 2, -1};

    private AloneTest() {
    }

    static void run() {
        Checks.check("as many answers as questions", QUESTIONS.length, ANSWERS.length);
        Checks.check("as many promises as questions", QUESTIONS.length, PROMISES.length);
        for (int first = 0; first < QUESTIONS.length; first++) {
            CurveMeetings x = Texts.of(TEXT);
            ask(x, first, "alone");
            for (int then = 0; then < QUESTIONS.length; then++) {
                ask(x, then, "after " + first);
                ask(x, first, "after " + then);
            }
        }
        for (int first = 0; first < QUESTIONS.length; first++) {
            for (int then = 0; then < QUESTIONS.length; then++) {
                CurveMeetings x = Texts.of(TEXT);
                QUESTIONS[first].of(x);
                ask(x, then, "right after " + first);
            }
        }
    }

    private static void ask(CurveMeetings x, int k, String when) {
        Checks.due(PROMISES[k], "question " + k + " " + when, ANSWERS[k], () -> QUESTIONS[k].of(x));
    }
}
