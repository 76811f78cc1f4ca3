/** Promises 1 to 10: a new object, the buffer, texts, names and settings. */
final class InputTest {
    private InputTest() {
    }

    static void run() {
        newObject();
        feeding();
        goodTexts();
        wrongTexts();
        tooMuch();
        loading();
        errorPositions();
        counts();
        names();
        settings();
    }

    private static void newObject() {
        CurveMeetings x = new CurveMeetings();
        Checks.due(1, "curveCount()", 0, () -> x.curveCount());
        Checks.due(1, "lineCount()", 0, () -> x.lineCount());
        Checks.due(1, "undoCount()", 0, () -> x.undoCount());
        Checks.due(1, "getSetting(LIMIT)", 10, () -> x.getSetting(0));
        Checks.due(1, "getSetting(DEPTH)", 4, () -> x.getSetting(1));
        Checks.due(1, "errorPosition()", -1, () -> x.errorPosition());
        Checks.due(1, "busiestLine()", -1, () -> x.busiestLine());
        Checks.due(1, "busiestCurve()", -1, () -> x.busiestCurve());
        Checks.due(1, "undo()", -1, () -> x.undo());
        Checks.due(1, "degree(0)", Checks.THROWS, () -> x.degree(0));
        Checks.due(1, "lineNumber(0, 0)", Checks.THROWS, () -> x.lineNumber(0, 0));
        Checks.due(1, "load(1) of an empty buffer", -2, () -> x.load(1));
        Checks.due(1, "load(0)", 0, () -> x.load(0));
        CurveMeetings changed = Texts.of(Texts.ARCH);
        changed.setSetting(0, 5);
        CurveMeetings other = new CurveMeetings();
        Checks.due(1, "curveCount() of another object", 0, () -> other.curveCount());
        Checks.due(1, "getSetting(LIMIT) of another object", 10, () -> other.getSetting(0));
        Checks.due(1, "undoCount() of another object", 0, () -> other.undoCount());
    }

    private static void feeding() {
        CurveMeetings x = new CurveMeetings();
        for (int bytes = 20; bytes <= 800; bytes += 20) {
            Checks.due(2, "feed to " + bytes, bytes, () -> x.feed(0x20202020, 0x20202020, 0x20202020, 0x20202020, 0x20202020));
        }
        Checks.due(2, "feed to a full buffer", -3, () -> x.feed(0, 0, 0, 0, 0));
        Checks.due(2, "load(801) after that", -2, () -> x.load(801));
        Checks.due(2, "load(800) after that", 0, () -> x.load(800));
        Checks.due(2, "feed after load", 20, () -> x.feed(0, 0, 0, 0, 0));
        CurveMeetings order = new CurveMeetings();
        order.feed(0x73657420, 0x64657074, 0x6820353b, 0x20202020, 0x20202020);
        Checks.due(2, "load of 'set depth 5;'", 1, () -> order.load(20));
        Checks.due(2, "getSetting(DEPTH)", 5, () -> order.getSetting(1));
        CurveMeetings high = new CurveMeetings();
        high.feed(0x20202080, -1, 0, 0, 0);
        Checks.due(2, "load with a byte of 128", -11, () -> high.load(4));
        Checks.due(2, "errorPosition()", 3, () -> high.errorPosition());
    }

    /** Loads a text without an error. */
    private static void good(int statements, String text) {
        CurveMeetings x = new CurveMeetings();
        Texts.feed(x, text);
        Checks.due(3, "load of '" + text + "'", statements, () -> x.load(text.length()));
        Checks.due(4, "errorPosition() after '" + text + "'", -1, () -> x.errorPosition());
    }

    /** Loads a text whose first error is at the sign ^, which is left out. */
    private static void wrong(int code, String marked) {
        CurveMeetings x = new CurveMeetings();
        String text = marked.replace("^", "");
        Texts.feed(x, text);
        Checks.due(3, "load of '" + marked + "'", code, () -> x.load(text.length()));
        Checks.due(4, "errorPosition() after '" + marked + "'", marked.indexOf('^'), () -> x.errorPosition());
    }

    private static void goodTexts() {
        good(0, "");
        good(0, " \n\n ");
        good(1, "set limit 12;");
        good(1, "set limit 1;");
        good(1, "set depth 6;");
        good(1, "\nset\ndepth\n1\n;\n");
        good(2, "set limit 3;set depth 3;");
        good(2, "set depth 3;set limit 3;");
        good(1, "curve a 0 0 1 20 20 3;");
        good(1, "curve a0 0 1 20 20 3;");
        good(1, "curve abcdef 0 0 1 1 1 1 2 2 2 3 3 3;");
        good(1, "curve limits 0 0 1 1 1 1;");
        good(1, "curve z 00 0000000000000000000000000020 01 1 1 1;");
        good(1, "line l 5 -5 200;");
        good(1, "line l - 5 5 - 200;");
        good(1, "line l 0 1 -0;");
        good(1, "line l-5-5-200;");
        good(1, "line l 0 -1 0;");
        good(1, "line l 1 0 0;");
        good(3, "line b 1 0 0;curve a 0 0 1 1 1 1;line c 1 0 0;");
    }

    private static void wrongTexts() {
        wrong(-11, "^Curve a 0 0 1 1 1 1;");
        wrong(-11, "^curves a 0 0 1 1 1 1;");
        wrong(-11, " ^a");
        wrong(-11, "^;");
        wrong(-11, "^1");
        wrong(-11, "^-");
        wrong(-11, "^limit 1;");
        wrong(-11, "set limit 1;^;");
        wrong(-11, "set limit 1;  ^!");
        wrong(-11, "curve^");
        wrong(-11, "curve  ^");
        wrong(-11, "curve ^1");
        wrong(-11, "curve ^;");
        wrong(-11, "curve ^abcdefg 0 0 1 1 1 1;");
        wrong(-11, "curve ^abcdefghijkl 0 0 1 1 1 1;");
        for (String reserved : new String[] {"curve", "line", "set", "limit", "depth"}) {
            wrong(-11, "curve ^" + reserved + " 0 0 1 1 1 1;");
            wrong(-11, "line ^" + reserved + " 0 1 1;");
        }
        wrong(-11, "curve a^;");
        wrong(-11, "curve a 0 0 1^;");
        wrong(-11, "curve a 0 0 1 1^;");
        wrong(-11, "curve a 0 0 1 1 1^;");
        wrong(-11, "curve a 0 0 1 1 1 1 2^;");
        wrong(-11, "curve a 0 0 1 1 1 1^");
        wrong(-11, "curve a 0 0 1 1 1 1 ^line b 0 1 1;");
        wrong(-11, "curve a 0 0 1 1 1 1 2 2 2 3 3 3 ^x");
        wrong(-11, "curve a ^-1 0 1 1 1 1;");
        wrong(-11, "curve a 0 0 1 ^x 1 1;");
        wrong(-11, "curve a 0 0 1 1^,1 1;");
        wrong(-12, "curve a ^21 0 1 1 1 1;");
        wrong(-12, "curve a 0 ^21 1 1 1 1;");
        wrong(-12, "curve a 0 0 ^0 1 1 1;");
        wrong(-12, "curve a 0 0 ^4 1 1 1;");
        wrong(-12, "curve a 0 0 1 1 ^4294967296 1;");
        wrong(-12, "curve a ^18446744073709551616 0 1 1 1 1;");
        wrong(-12, "curve a 0 0 1 1 1 1 ^0021 0 1;");
        wrong(-12, "curve a 0 0 1 1 1 1 2 2 2 3 3 3 ^21");
        wrong(-14, "curve a 0 0 1 1 1 1 2 2 2 3 3 3 ^20");
        wrong(-14, "curve a 0 0 1 1 1 1 2 2 2 3 3 3 ^4 99 99;");
        wrong(-13, "curve a 0 0 1 1 1 1; curve ^a");
        wrong(-13, "curve a 0 0 1 1 1 1; line ^a 0 1 1;");
        wrong(-13, "line abcdef 0 1 1; curve ^abcdef 0 0 1 1 1 1;");
        wrong(-13, "line a 0 1 1; line ^a 0 1 1;");
        wrongLines();
        wrongSettings();
    }

    private static void wrongLines() {
        wrong(-11, "line ^-1 1 1;");
        wrong(-11, "line l -^-1 1 1;");
        wrong(-11, "line l -^x 1 1;");
        wrong(-11, "line l 1 1^;");
        wrong(-11, "line l 1 1 -^;");
        wrong(-11, "line l 1 1 1 ^1;");
        wrong(-11, "line l 1 1 1 ^-");
        wrong(-11, "line l 1 1 1^");
        wrong(-12, "line l ^6 1 1;");
        wrong(-12, "line l -^6 1 1;");
        wrong(-12, "line l 1 ^6 1;");
        wrong(-12, "line l 1 - ^6 1;");
        wrong(-12, "line l 1 1 ^201;");
        wrong(-12, "line l 1 1 -^201;");
        wrong(-12, "line l 1 1 -^99999999999999999999999999999;");
        wrong(-12, "line l 0 ^0 1;");
        wrong(-12, "line l -0 -^00 1;");
        wrong(-12, "line l 0 ^0 x; !");
        wrong(-12, "line l ^4294967297 1 1;");
    }

    private static void wrongSettings() {
        wrong(-11, "set^");
        wrong(-11, "set ^speed 1;");
        wrong(-11, "set ^1;");
        wrong(-11, "set ^curve 1;");
        wrong(-11, "set limit^;");
        wrong(-11, "set limit ^x;");
        wrong(-11, "set limit ^-1;");
        wrong(-11, "set limit 1 ^2;");
        wrong(-11, "set^\tlimit 1;");
        wrong(-11, "set^\rlimit 1;");
        wrong(-11, "set^\u00a0limit 1;");
        wrong(-12, "set limit ^0;");
        wrong(-12, "set limit ^13;");
        wrong(-12, "set depth ^0;");
        wrong(-12, "set depth ^7;");
        wrong(-13, "set limit 1; set ^limit 1;");
        wrong(-13, "set depth 1; set limit 1; set ^depth 9;");
    }

    private static void tooMuch() {
        StringBuilder curves = new StringBuilder();
        StringBuilder lines = new StringBuilder();
        for (char name = 'a'; name < 'i'; name++) {
            curves.append("curve ").append(name).append(" 0 0 1 1 1 1;");
        }
        for (char name = 'p'; name < 'v'; name++) {
            lines.append("line ").append(name).append(" 0 1 1;");
        }
        good(14, curves.toString() + lines);
        wrong(-14, curves + " ^curve a 0 0 1");
        wrong(-14, curves + " ^curve");
        wrong(-14, lines + " ^line a 0 0 1");
        wrong(-14, lines + " set limit 3; ^line ;");
        wrong(-11, curves + " ^a");
    }

    private static void loading() {
        CurveMeetings x = Texts.of(Texts.ARCH);
        x.movePoint(0, 1, 3, 4);
        Texts.feed(x, "curve q 1 1 1 2 2 2; set limit 0;");
        Checks.due(3, "load(-1)", -2, () -> x.load(-1));
        Checks.due(3, "load(41) of 40", -2, () -> x.load(41));
        Checks.due(3, "load(33) with an error", -12, () -> x.load(33));
        Checks.due(3, "load(1) of the emptied buffer", -2, () -> x.load(1));
        Checks.due(3, "curveCount() after an error", 2, () -> x.curveCount());
        Checks.due(3, "getSetting(DEPTH) after an error", 1, () -> x.getSetting(1));
        Checks.due(3, "control(0, 1, 1) after an error", 4, () -> x.control(0, 1, 1));
        Checks.due(3, "undoCount() after an error", 1, () -> x.undoCount());
        Texts.feed(x, "curve q 1 1 1 2 2 2; and this is not read");
        Checks.due(3, "load of a part", 1, () -> x.load(20));
        Checks.due(3, "load(1) after a part", -2, () -> x.load(1));
        Checks.due(3, "curveCount() then", 1, () -> x.curveCount());
        Checks.due(3, "lineCount() then", 0, () -> x.lineCount());
        Checks.due(3, "getSetting(DEPTH) then", 4, () -> x.getSetting(1));
        Checks.due(3, "getSetting(LIMIT) then", 10, () -> x.getSetting(0));
        Checks.due(3, "undoCount() then", 0, () -> x.undoCount());
        Checks.due(3, "undo() then", -1, () -> x.undo());
        Checks.due(3, "curveNamed(arch) then", -1, () -> x.curveNamed(Texts.letters("arch")));
        Checks.due(3, "load(0)", 0, () -> x.load(0));
        Checks.due(3, "curveCount() of an empty text", 0, () -> x.curveCount());
        CurveMeetings half = new CurveMeetings();
        Texts.feed(half, "curve q 1 1 1 2 2 2; line l 0 1 1;");
        Checks.due(3, "load(30), which ends too early", -11, () -> half.load(30));
        Checks.due(3, "errorPosition()", 30, () -> half.errorPosition());
    }

    private static void errorPositions() {
        CurveMeetings x = new CurveMeetings();
        Checks.due(4, "errorPosition() without a load", -1, () -> x.errorPosition());
        Texts.load(x, "set x");
        Checks.due(4, "errorPosition() of an error", 4, () -> x.errorPosition());
        x.load(-1);
        x.load(5000);
        Checks.due(4, "errorPosition() after BAD_VALUE", 4, () -> x.errorPosition());
        x.setSetting(0, 3);
        x.undo();
        Checks.due(4, "errorPosition() after a change", 4, () -> x.errorPosition());
        x.load(0);
        Checks.due(4, "errorPosition() after a load without error", -1, () -> x.errorPosition());
        Texts.load(x, "  ;");
        Checks.due(4, "errorPosition() of another error", 2, () -> x.errorPosition());
    }

    private static void counts() {
        CurveMeetings x = Texts.of("curve a 0 0 1 1 1 1; line l 0 1 1; curve b 0 0 1 1 1 1; curve c 0 0 1 1 1 1; line m 1 0 1;");
        Checks.due(5, "curveCount()", 3, () -> x.curveCount());
        Checks.due(6, "lineCount()", 2, () -> x.lineCount());
        Checks.due(7, "undoCount()", 0, () -> x.undoCount());
        for (int k = 1; k <= 12; k++) {
            x.reverse(0);
            Checks.due(7, "undoCount() after " + k + " changes", Math.min(k, 10), () -> x.undoCount());
        }
        x.undo();
        Checks.due(7, "undoCount() after undo", 9, () -> x.undoCount());
        x.reverse(9);
        Checks.due(7, "undoCount() after an error", 9, () -> x.undoCount());
    }

    private static void names() {
        CurveMeetings x = Texts.of("curve a 0 0 1 1 1 1; line b 0 1 1; curve abcdef 0 0 1 1 1 1; line az 1 0 1; curve zzzzzz 0 0 1 1 1 1;");
        String[] asked = {"a", "b", "abcdef", "az", "zzzzzz", "", "abcde", "aa", "bcdef", "z"};
        Checks.dueRow(8, "curveNamed", new long[] {0, -1, 1, -1, 2, -1, -1, -1, -1, -1}, k -> x.curveNamed(Texts.letters(asked[k])));
        Checks.dueRow(9, "lineNamed", new long[] {-1, 0, -1, 1, -1, -1, -1, -1, -1, -1}, k -> x.lineNamed(Texts.letters(asked[k])));
        Checks.due(8, "curveNamed(1), the group at the end", -1, () -> x.curveNamed(1));
        Checks.due(8, "curveNamed with a bit above the groups", -1, () -> x.curveNamed(1 << 30 | 1 << 25));
        Checks.due(8, "curveNamed(MIN)", -1, () -> x.curveNamed(Integer.MIN_VALUE));
        Checks.due(9, "lineNamed(2), the group at the end", -1, () -> x.lineNamed(2));
        Checks.due(9, "lineNamed with a bit above the groups", -1, () -> x.lineNamed(1 << 30 | 2 << 25));
        Checks.due(8, "curveNamed(33554432)", 0, () -> x.curveNamed(33554432));
    }

    private static void settings() {
        CurveMeetings x = Texts.of("set depth 6; set limit 12;");
        Checks.due(10, "getSetting(LIMIT)", 12, () -> x.getSetting(CurveMeetings.LIMIT));
        Checks.due(10, "getSetting(DEPTH)", 6, () -> x.getSetting(CurveMeetings.DEPTH));
        Checks.due(10, "getSetting(2)", -2, () -> x.getSetting(2));
        Checks.due(10, "getSetting(-1)", -2, () -> x.getSetting(-1));
        Checks.due(10, "getSetting(MAX)", -2, () -> x.getSetting(Integer.MAX_VALUE));
    }
}
