/** Promises 35 to 47: bands, pairs, meetings, and two curves side by side. */
final class CurvesTest {
    private static final long THROWS = Checks.THROWS;

    private CurvesTest() {
    }

    static void run() {
        bands();
        clipping();
        crossing();
        meetings();
        diagonal();
        closeMeetings();
        boxesThatTouch();
        sameness();
        sharedEnds();
        near();
        wrongIndexes();
    }

    private static void bands() {
        CurveMeetings x = Texts.of("curve a 0 0 1 10 10 1 20 0 1; curve b 0 5 1 20 5 1; curve c 2 3 1 4 18 2 10 1 3 12 9 1;"
            + "curve d 5 5 1 20 0 1 5 5 1; curve e 20 0 1 10 10 1 0 0 1; curve f 0 20 1 20 20 1 0 0 1 20 0 1;");
        Checks.dueRow(35, "bandLow", new long[] {0, 0, -68, 0, -200, -400, THROWS}, k -> x.bandLow(k));
        Checks.dueRow(36, "bandHigh", new long[] {200, 0, 138, 0, 0, 400, THROWS}, k -> x.bandHigh(k));
        Checks.due(35, "bandLow(-1)", THROWS, () -> x.bandLow(-1));
        Checks.due(36, "bandHigh(-1)", THROWS, () -> x.bandHigh(-1));
    }

    private static void clipping() {
        CurveMeetings x = Texts.of("curve flat 0 5 1 20 5 1; curve up 10 0 1 10 20 1; curve high 0 10 1 20 12 1; curve arch 0 5 1 10 20 1 20 5 1;"
            + "curve low 0 0 1 20 4 1; curve loop 5 5 1 20 0 1 5 5 1; curve thick 0 5 1 10 10 1 20 5 1; set depth 2;");
        Checks.dueRow(37, "firstLeft(k, 0)", new long[] {0, 0, -1, 0, -1, 0, 0, THROWS}, k -> x.firstLeft(k, 0));
        Checks.dueRow(38, "lastLeft(k, 0)", new long[] {3, 1, -1, 3, -1, 3, 3, THROWS}, k -> x.lastLeft(k, 0));
        Checks.dueRow(37, "firstLeft(k, 5)", new long[] {0, 0, 0, 0, 0, 0, 0}, k -> x.firstLeft(k, 5));
        Checks.dueRow(38, "lastLeft(k, 5)", new long[] {3, 3, 3, 3, 3, 3, 3}, k -> x.lastLeft(k, 5));
        Checks.dueRow(37, "firstLeft(k, 6)", new long[] {0, 0, 0, 0, -1, 0, 0}, k -> x.firstLeft(k, 6));
        Checks.dueRow(38, "lastLeft(k, 6)", new long[] {3, 2, 0, 3, -1, 3, 3}, k -> x.lastLeft(k, 6));
        x.setSetting(1, 3);
        Checks.due(37, "firstLeft(1, 0) at depth 3", 1, () -> x.firstLeft(1, 0));
        Checks.due(38, "lastLeft(1, 0) at depth 3", 2, () -> x.lastLeft(1, 0));
        x.setSetting(1, 6);
        Checks.due(37, "firstLeft(1, 0) at depth 6", 15, () -> x.firstLeft(1, 0));
        Checks.due(38, "lastLeft(1, 0) at depth 6", 16, () -> x.lastLeft(1, 0));
        x.setWeight(1, 1, 3);
        Checks.due(37, "firstLeft(1, 0) with a weight", 6, () -> x.firstLeft(1, 0));
        Checks.due(38, "lastLeft(1, 0) with a weight", 6, () -> x.lastLeft(1, 0));
        x.reverse(0);
        Checks.due(37, "firstLeft(1, 0) with the band reversed", 6, () -> x.firstLeft(1, 0));
        x.reverse(1);
        Checks.due(37, "firstLeft(1, 0) reversed", 57, () -> x.firstLeft(1, 0));
        Checks.due(38, "lastLeft(1, 0) reversed", 57, () -> x.lastLeft(1, 0));
    }

    private static void crossing() {
        CurveMeetings x = Texts.of("curve a 0 0 1 20 20 1; curve b 0 20 1 20 0 1; set depth 2;");
        Checks.due(39, "pairCount(0, 1)", 4, () -> x.pairCount(0, 1));
        Checks.dueRow(40, "pair(0, 1, k)", new long[] {101, 102, 201, 202, -1}, k -> x.pair(0, 1, k));
        Checks.due(40, "pair(0, 1, -1)", -1, () -> x.pair(0, 1, -1));
        Checks.due(40, "pair(0, 1, MAX)", -1, () -> x.pair(0, 1, Integer.MAX_VALUE));
        Checks.due(41, "meetingCount(0, 1)", 1, () -> x.meetingCount(0, 1));
        Checks.dueRow(43, "meetingNumber(0, 1, 0, k)", new long[] {1, 2, 1, 2, 4, -2}, k -> x.meetingNumber(0, 1, 0, k));
        Checks.due(39, "pairCount(0, 0)", 10, () -> x.pairCount(0, 0));
        Checks.dueRow(40, "pair(0, 0, k)", new long[] {0, 1, 100, 101, 102, 201, 202, 203, 302, 303, -1}, k -> x.pair(0, 0, k));
        x.setSetting(1, 6);
        Checks.due(39, "pairCount(0, 1) at depth 6", 4, () -> x.pairCount(0, 1));
        Checks.dueRow(40, "pair(0, 1, k) at depth 6", new long[] {3131, 3132, 3231, 3232, -1}, k -> x.pair(0, 1, k));
        Checks.due(39, "pairCount(0, 0) at depth 6", 190, () -> x.pairCount(0, 0));
        Checks.due(40, "pair(0, 0, 189) at depth 6", 6363, () -> x.pair(0, 0, 189));
        Checks.due(43, "meetingNumber(0, 0, 0, 4) at depth 6", 190, () -> x.meetingNumber(0, 0, 0, 4));
        x.movePoint(1, 0, 20, 20);
        x.movePoint(1, 1, 20, 20);
        x.movePoint(0, 0, 20, 20);
        Checks.due(39, "pairCount(0, 1) at one place", 4096, () -> x.pairCount(0, 1));
        Checks.due(40, "pair(0, 1, 4095) at one place", 6363, () -> x.pair(0, 1, 4095));
        Checks.due(40, "pair(0, 1, 4096) at one place", -1, () -> x.pair(0, 1, 4096));
        Checks.due(41, "meetingCount(0, 1) at one place", 1, () -> x.meetingCount(0, 1));
        Checks.due(43, "meetingNumber(0, 1, 0, 4) at one place", 4096, () -> x.meetingNumber(0, 1, 0, 4));
        Checks.due(42, "meetingOf(0, 1, 63, 63) at one place", 0, () -> x.meetingOf(0, 1, 63, 63));
        Checks.due(42, "meetingOf(0, 1, 64, 63) at one place", -1, () -> x.meetingOf(0, 1, 64, 63));
        Checks.due(42, "meetingOf(0, 1, 63, 64) at one place", -1, () -> x.meetingOf(0, 1, 63, 64));
    }

    /** An arch that a low line crosses close to both ends. */
    private static void meetings() {
        CurveMeetings x = Texts.of("curve arch 0 0 1 10 20 1 20 0 1; curve flat 0 1 1 20 1 1; curve far 0 15 1 20 15 1; set depth 4;");
        Checks.due(39, "pairCount(0, 1)", 4, () -> x.pairCount(0, 1));
        Checks.dueRow(40, "pair(0, 1, k)", new long[] {0, 1, 1514, 1515, -1}, k -> x.pair(0, 1, k));
        Checks.dueRow(40, "pair(1, 0, k)", new long[] {0, 100, 1415, 1515, -1}, k -> x.pair(1, 0, k));
        Checks.due(41, "meetingCount(0, 1)", 2, () -> x.meetingCount(0, 1));
        Checks.due(41, "meetingCount(1, 0)", 2, () -> x.meetingCount(1, 0));
        Checks.due(41, "meetingCount(0, 2)", 0, () -> x.meetingCount(0, 2));
        Checks.due(39, "pairCount(0, 2)", 0, () -> x.pairCount(0, 2));
        Checks.due(40, "pair(0, 2, 0)", -1, () -> x.pair(0, 2, 0));
        Checks.due(42, "meetingOf(0, 1, 0, 0)", 0, () -> x.meetingOf(0, 1, 0, 0));
        Checks.due(42, "meetingOf(0, 1, 15, 15)", 1, () -> x.meetingOf(0, 1, 15, 15));
        Checks.due(42, "meetingOf(0, 1, 7, 7)", -1, () -> x.meetingOf(0, 1, 7, 7));
        Checks.due(42, "meetingOf(0, 1, 16, 0)", -1, () -> x.meetingOf(0, 1, 16, 0));
        Checks.due(42, "meetingOf(0, 1, 0, -1)", -1, () -> x.meetingOf(0, 1, 0, -1));
        Checks.due(42, "meetingOf(0, 1, -1, 15)", -1, () -> x.meetingOf(0, 1, -1, 15));
        Checks.due(42, "meetingOf(0, 1, 0, 16)", -1, () -> x.meetingOf(0, 1, 0, 16));
        Checks.dueRow(43, "meetingNumber(0, 1, 0, k)", new long[] {0, 0, 0, 1, 2, -2}, k -> x.meetingNumber(0, 1, 0, k));
        Checks.dueRow(43, "meetingNumber(0, 1, 1, k)", new long[] {15, 15, 14, 15, 2, -2}, k -> x.meetingNumber(0, 1, 1, k));
        Checks.due(43, "meetingNumber(0, 1, 2, 9)", -1, () -> x.meetingNumber(0, 1, 2, 9));
        Checks.due(43, "meetingNumber(0, 1, -1, 0)", -1, () -> x.meetingNumber(0, 1, -1, 0));
        Checks.due(43, "meetingNumber(0, 1, 0, -1)", -2, () -> x.meetingNumber(0, 1, 0, -1));
        Checks.due(43, "meetingNumber(0, 2, 0, 0)", -1, () -> x.meetingNumber(0, 2, 0, 0));
    }

    /** Meetings whose pairs are joined over a corner alone, and first pairs that tell the order. */
    private static void diagonal() {
        CurveMeetings x = Texts.of("curve a 0 0 1 20 0 1; curve b 0 0 1 20 0 1; set depth 1;");
        Checks.due(41, "meetingCount(0, 1) of one line", 1, () -> x.meetingCount(0, 1));
        CurveMeetings y = Texts.of("curve a 0 0 1 20 0 1; curve b 20 0 1 0 20 1 0 0 1; set depth 3;");
        Checks.due(41, "meetingCount(0, 1) of ends crosswise", 2, () -> y.meetingCount(0, 1));
        Checks.due(42, "meetingOf(0, 1, 0, 7)", 0, () -> y.meetingOf(0, 1, 0, 7));
        Checks.due(42, "meetingOf(0, 1, 7, 0)", 1, () -> y.meetingOf(0, 1, 7, 0));
        Checks.due(43, "meetingNumber(0, 1, 0, 3)", 7, () -> y.meetingNumber(0, 1, 0, 3));
        Checks.due(43, "meetingNumber(0, 1, 1, 2)", 0, () -> y.meetingNumber(0, 1, 1, 2));
    }

    /** Meetings that lie two cells apart, and so are not one. */
    private static void closeMeetings() {
        apart(3, "curve a 0 2 1 11 14 3 16 15 3; curve b 5 4 1 17 18 3 2 3 1; set depth 3;");
        apart(4, "curve a 0 19 2 16 2 2 17 9 3 6 15 3; curve b 20 3 3 0 19 2 7 18 2 15 3 1; set depth 4;");
        apart(2, "curve a 12 7 1 8 13 2 2 18 1; curve b 13 8 1 0 20 2 20 2 1; set depth 4;");
        apart(3, "curve a 13 6 3 4 12 2 2 18 2 0 0 3; curve b 10 7 1 2 14 3 18 2 2 1 15 1; set depth 5;");
    }

    private static void apart(int meetings, String text) {
        CurveMeetings x = Texts.of(text);
        Checks.due(41, "meetingCount(0, 1) of " + text, meetings, () -> x.meetingCount(0, 1));
        Checks.due(41, "meetingCount(1, 0) of " + text, meetings, () -> x.meetingCount(1, 0));
        x.reverse(0);
        Checks.due(41, "meetingCount(0, 1) of the reverse of " + text, meetings, () -> x.meetingCount(0, 1));
        x.reverse(1);
        Checks.due(41, "meetingCount(1, 0) of both reverses of " + text, meetings, () -> x.meetingCount(1, 0));
    }

    private static void boxesThatTouch() {
        CurveMeetings x = Texts.of("curve a 0 0 1 10 10 1; curve b 10 10 1 20 20 1; curve c 0 10 1 10 20 1; curve d 11 0 1 20 9 1; set depth 1;");
        Checks.dueRow(39, "pairCount(0, k)", new long[] {4, 1, 1, 0, THROWS}, k -> x.pairCount(0, k));
        Checks.due(40, "pair(0, 1, 0)", 100, () -> x.pair(0, 1, 0));
        Checks.dueRow(40, "pair(0, 2, k)", new long[] {100, -1}, k -> x.pair(0, 2, k));
        Checks.due(40, "pair(1, 0, 0)", 1, () -> x.pair(1, 0, 0));
    }

    private static void sameness() {
        CurveMeetings x = Texts.of("curve a 0 0 1 5 6 2 7 8 1; curve b 0 0 1 5 6 2 7 8 1; curve c 7 8 1 5 6 2 0 0 1; curve d 0 0 2 5 6 2 7 8 2;"
            + "curve e 0 0 3 5 6 3 7 8 3; curve f 7 8 3 5 6 3 0 0 3; curve g 0 0 1 5 6 2; curve h 1 1 1 2 2 1 1 1 1;");
        Checks.dueRow(44, "sameness(0, k)", new long[] {1, 1, 2, 0, 0, 0, 0, 0, THROWS}, k -> x.sameness(0, k));
        Checks.dueRow(44, "sameness(3, k)", new long[] {0, 0, 0, 1, 1, 2, 0, 0}, k -> x.sameness(3, k));
        Checks.due(44, "sameness(7, 7)", 1, () -> x.sameness(7, 7));
        Checks.due(44, "sameness(6, 0)", 0, () -> x.sameness(6, 0));
        CurveMeetings y = Texts.of("curve a 0 0 1 5 6 2; curve b 5 6 1 0 0 2; curve c 5 6 2 0 0 1; curve d 0 0 2 5 6 1; curve e 0 0 1 5 7 2; curve f 0 0 1 4 6 2;");
        Checks.dueRow(44, "sameness(0, k)", new long[] {1, 0, 2, 0, 0, 0}, k -> y.sameness(0, k));
        CurveMeetings z = Texts.of("curve a 0 0 1 5 6 1 7 8 1; curve b 1 0 1 5 6 1 7 8 1; curve c 0 1 1 5 6 1 7 8 1; curve d 0 0 1 5 6 1 8 8 1;"
            + "curve e 7 8 1 5 6 1 1 0 1; curve f 7 9 1 5 6 1 0 0 1; curve g 0 0 2 5 6 1 7 8 1; curve h 0 0 1 5 6 1 7 8 3;");
        Checks.dueRow(44, "sameness(0, k) but for an end", new long[] {1, 0, 0, 0, 0, 0, 0, 0}, k -> z.sameness(0, k));
    }

    private static void sharedEnds() {
        CurveMeetings x = Texts.of("curve a 0 0 1 5 5 2 20 20 1; curve b 0 0 3 7 8 1; curve c 7 8 1 0 0 1; curve d 20 20 1 7 8 1; curve e 7 8 1 20 20 1;"
            + "curve f 20 20 1 0 0 1; curve g 5 5 1 5 5 1; curve h 0 20 1 20 0 1;");
        Checks.dueRow(45, "sharedEnds(0, k)", new long[] {9, 1, 2, 4, 8, 6, 0, 0, THROWS}, k -> x.sharedEnds(0, k));
        Checks.due(45, "sharedEnds(6, 6)", 15, () -> x.sharedEnds(6, 6));
        Checks.due(45, "sharedEnds(2, 0)", 4, () -> x.sharedEnds(2, 0));
        Checks.due(45, "sharedEnds(3, 0)", 2, () -> x.sharedEnds(3, 0));
    }

    private static void near() {
        CurveMeetings none = new CurveMeetings();
        Checks.due(47, "busiestCurve() without curves", -1, () -> none.busiestCurve());
        CurveMeetings x = Texts.of("curve a 0 0 1 1 1 1; curve b 5 5 1 6 6 1; curve c 6 6 1 9 9 1; curve d 9 9 1 20 20 1; curve e 20 20 1 9 9 1; curve f 0 20 1 1 20 1; set depth 3;");
        Checks.dueRow(46, "curvesNear", new long[] {0, 4, 26, 20, 12, 0, THROWS}, k -> x.curvesNear(k));
        Checks.due(46, "curvesNear(-1)", THROWS, () -> x.curvesNear(-1));
        Checks.due(47, "busiestCurve()", 2, () -> x.busiestCurve());
        x.movePoint(1, 1, 7, 4);
        Checks.due(47, "busiestCurve() with a tie", 2, () -> x.busiestCurve());
        x.movePoint(4, 1, 10, 10);
        Checks.due(46, "curvesNear(4) after a move", 8, () -> x.curvesNear(4));
        Checks.due(47, "busiestCurve() after a move", 3, () -> x.busiestCurve());
        CurveMeetings apart = Texts.of("curve a 0 0 1 1 1 1; curve b 5 5 1 6 6 1;");
        Checks.due(47, "busiestCurve() without pairs", 0, () -> apart.busiestCurve());
        CurveMeetings parts = Texts.of("curve a 0 0 1 20 20 1; curve b 0 6 1 14 20 1; set depth 1;");
        Checks.due(46, "curvesNear(0) at depth 1", 2, () -> parts.curvesNear(0));
        parts.setSetting(1, 3);
        Checks.due(46, "curvesNear(0) at depth 3", 0, () -> parts.curvesNear(0));
    }

    private static void wrongIndexes() {
        CurveMeetings x = Texts.of(Texts.ARCH);
        for (int[] wrong : new int[][] {{-1, 0}, {2, 0}, {0, -1}, {0, 2}, {Integer.MAX_VALUE, 0}, {0, Integer.MIN_VALUE}}) {
            int curve = wrong[0];
            int other = wrong[1];
            Checks.due(37, "firstLeft with a wrong index", THROWS, () -> x.firstLeft(curve, other));
            Checks.due(38, "lastLeft with a wrong index", THROWS, () -> x.lastLeft(curve, other));
            Checks.due(39, "pairCount with a wrong index", THROWS, () -> x.pairCount(curve, other));
            Checks.due(40, "pair with a wrong index", THROWS, () -> x.pair(curve, other, -1));
            Checks.due(41, "meetingCount with a wrong index", THROWS, () -> x.meetingCount(curve, other));
            Checks.due(42, "meetingOf with a wrong index", THROWS, () -> x.meetingOf(curve, other, -1, -1));
            Checks.due(43, "meetingNumber with a wrong index", THROWS, () -> x.meetingNumber(curve, other, -1, 9));
            Checks.due(44, "sameness with a wrong index", THROWS, () -> x.sameness(curve, other));
            Checks.due(45, "sharedEnds with a wrong index", THROWS, () -> x.sharedEnds(curve, other));
        }
    }
}
