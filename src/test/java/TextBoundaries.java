/** Promises 1 to 4 at their boundaries: a new object, the buffer, and texts, sentence by sentence. */
final class TextBoundaries {
    private static final int BLANK = 0x20202020;
    private static final String[] RESERVED = {"curve", "line", "set", "limit", "depth"};

    private TextBoundaries() {
    }

    static void run() {
        newObject();
        feeding();
        refusedFeed();
        placesOfBytes();
        lengths();
        emptying();
        countingStatements();
        failedLoads();
        errorPositions();
        allSigns();
        words();
        integers();
        curveGrammar();
        lineGrammar();
        settingGrammar();
        earlyEnds();
        names();
        points();
        values();
        bothZero();
        settingRanges();
        duplicates();
        tooMany();
        firstErrors();
    }

    // ---- what a text answers ----

    /** Loads a text without an error. */
    private static void reads(int statements, String text) {
        CurveMeetings x = new CurveMeetings();
        Texts.feed(x, text);
        Checks.due("load of '" + text + "'", statements, () -> x.load(text.length()));
        Checks.due("errorPosition() after '" + text + "'", -1, () -> x.errorPosition());
    }

    /** Loads a text whose first error is at the sign ^, which is left out. */
    private static void stops(int code, String marked) {
        stopsAt(code, marked.indexOf('^'), marked.replace("^", ""));
    }

    private static void stopsAt(int code, int position, String text) {
        CurveMeetings x = new CurveMeetings();
        Texts.feed(x, text);
        Checks.due("load of '" + text + "'", code, () -> x.load(text.length()));
        Checks.due("errorPosition() after '" + text + "'", position, () -> x.errorPosition());
    }

    // ---- promise 1 ----

    private static void newObject() {
        Checks.says(1, "a figure without curves and lines");
        CurveMeetings x = new CurveMeetings();
        Checks.due("curveCount()", 0, () -> x.curveCount());
        Checks.due("lineCount()", 0, () -> x.lineCount());
        Checks.dueForAll("degree", new int[] {-1, 0, 1, 7, 8}, Checks.THROWS, k -> x.degree(k));
        Checks.dueForAll("lineNumber", new int[] {-1, 0, 1, 5, 6}, Checks.THROWS, k -> x.lineNumber(k, 0));
        Checks.dueForAll("reverse", new int[] {-1, 0, 7}, -1, k -> x.reverse(k));
        Checks.dueForAll("setLine", new int[] {-1, 0, 5}, -1, k -> x.setLine(k, 1, 1, 1));
        Checks.due("curveNamed(0), which is the name of nothing", -1, () -> x.curveNamed(0));
        Checks.due("lineNamed(0), which is the name of nothing", -1, () -> x.lineNamed(0));
        Checks.says(1, "with initial settings");
        Checks.due("getSetting(LIMIT)", 10, () -> x.getSetting(CurveMeetings.LIMIT));
        Checks.due("getSetting(DEPTH)", 4, () -> x.getSetting(CurveMeetings.DEPTH));
        Checks.says(1, "no changes to undo");
        Checks.due("undoCount()", 0, () -> x.undoCount());
        Checks.due("undo()", -1, () -> x.undo());
        Checks.says(1, "an empty input buffer");
        Checks.due("load(1)", -2, () -> x.load(1));
        Checks.due("feed", 20, () -> x.feed(0, 0, 0, 0, 0));
    }

    // ---- promise 2 ----

    private static void feeding() {
        Checks.says(2, "Returns the new number of bytes in the buffer; FULL if the buffer would hold more than 800");
        CurveMeetings x = new CurveMeetings();
        for (int bytes = 20; bytes <= 800; bytes += 20) {
            Checks.due("feed to " + bytes, bytes, () -> x.feed(BLANK, BLANK, BLANK, BLANK, BLANK));
        }
        Checks.due("feed to 820", -3, () -> x.feed(BLANK, BLANK, BLANK, BLANK, BLANK));
        Checks.due("feed to 820 again", -3, () -> x.feed(BLANK, BLANK, BLANK, BLANK, BLANK));
        Checks.due("load(801)", -2, () -> x.load(801));
        Checks.due("feed after a refused load", -3, () -> x.feed(BLANK, BLANK, BLANK, BLANK, BLANK));
        Checks.due("load(800)", 0, () -> x.load(800));
        Checks.due("feed after a load", 20, () -> x.feed(BLANK, BLANK, BLANK, BLANK, BLANK));
    }

    private static void refusedFeed() {
        Checks.says(2, "nothing is appended then");
        CurveMeetings x = new CurveMeetings();
        Texts.feed(x, " ".repeat(780) + "  set depth 5;set li");
        Checks.due("feed to 820", -3, () -> x.feed(0x6d697420, 0x333b2020, BLANK, BLANK, BLANK));
        Checks.due("load(800)", -11, () -> x.load(800));
        Checks.due("errorPosition(), which is that of 'li'", 798, () -> x.errorPosition());
        CurveMeetings whole = new CurveMeetings();
        Texts.feed(whole, " ".repeat(780) + "  set  depth   5   ;");
        whole.feed(-1, -1, -1, -1, -1);
        Checks.due("load(800), which ends with ;", 1, () -> whole.load(800));
        Checks.due("getSetting(DEPTH)", 5, () -> whole.getSetting(1));
    }

    /** A wrong byte at each of the 20 places is found there, and so is each sign of a text. */
    private static void placesOfBytes() {
        Checks.says(2, "the four bytes of each parameter, most significant byte first");
        for (int place = 0; place < 20; place++) {
            int[] words = {BLANK, BLANK, BLANK, BLANK, BLANK};
            words[place / 4] ^= (0x20 ^ 0xff) << 24 - place % 4 * 8;
            CurveMeetings x = new CurveMeetings();
            x.feed(words[0], words[1], words[2], words[3], words[4]);
            Checks.due("load with 255 at " + place, -11, () -> x.load(20));
            Checks.due("errorPosition()", place, () -> x.errorPosition());
            CurveMeetings before = new CurveMeetings();
            before.feed(words[0], words[1], words[2], words[3], words[4]);
            int length = place;
            Checks.due("load of what is before " + place, 0, () -> before.load(length));
        }
        CurveMeetings x = new CurveMeetings();
        x.feed(0x63757276, 0x65206162, 0x63646566, 0x20302031, 0x20322033);
        x.feed(0x20342031, 0x3b202020, BLANK, BLANK, BLANK);
        Checks.due("load of 'curve abcdef 0 1 2 3 4 1;'", 1, () -> x.load(25));
        Checks.due("curveNamed(abcdef)", 0, () -> x.curveNamed(Texts.letters("abcdef")));
        Checks.dueAt("control(0, 1, k)", new int[] {0, 1, 2}, new long[] {3, 4, 1}, k -> x.control(0, 1, k));
        Checks.says(2, "bytes of a negative parameter");
        for (int word : new int[] {-1, Integer.MIN_VALUE, 0x80202020, 0xa0a0a0a0}) {
            CurveMeetings y = new CurveMeetings();
            Checks.due("feed of " + word, 20, () -> y.feed(word, word, word, word, word));
            Checks.due("load of " + word, -11, () -> y.load(20));
            Checks.due("errorPosition()", 0, () -> y.errorPosition());
        }
    }

    // ---- promise 3 ----

    private static void lengths() {
        Checks.says(3, "length: from 0 to the number of bytes in the buffer; BAD_VALUE if out of range");
        CurveMeetings x = Texts.of("curve a 0 0 1 1 1 1; set depth 2;");
        x.reverse(0);
        Checks.due("load(1) of an empty buffer", -2, () -> x.load(1));
        Texts.feed(x, "set limit 3;");
        Checks.dueForAll("load of 20 bytes", new int[] {-1, 21, 22, 800, Integer.MIN_VALUE, Integer.MAX_VALUE}, -2, k -> x.load(k));
        Checks.due("curveCount() after that", 1, () -> x.curveCount());
        Checks.due("getSetting(DEPTH) after that", 2, () -> x.getSetting(1));
        Checks.due("undoCount() after that", 1, () -> x.undoCount());
        Checks.says(3, "the buffer is unchanged then");
        Checks.due("feed after BAD_VALUE", 40, () -> x.feed(BLANK, BLANK, BLANK, BLANK, BLANK));
        Checks.dueForAll("load of 40 bytes", new int[] {-1, 41}, -2, k -> x.load(k));
        Checks.due("load(40)", 1, () -> x.load(40));
        Checks.due("getSetting(LIMIT)", 3, () -> x.getSetting(0));
        Checks.says(3, "the first length bytes of the input buffer");
        for (int length = 11; length <= 13; length++) {
            CurveMeetings part = new CurveMeetings();
            Texts.feed(part, "set limit 3;!");
            int bytes = length;
            Checks.due("load(" + length + ")", length == 12 ? 1 : -11, () -> part.load(bytes));
            Checks.due("errorPosition()", length == 11 ? 11 : length == 12 ? -1 : 12, () -> part.errorPosition());
        }
        CurveMeetings nothing = new CurveMeetings();
        Texts.feed(nothing, "!");
        Checks.due("load(0) of a wrong text", 0, () -> nothing.load(0));
        CurveMeetings cut = new CurveMeetings();
        Texts.feed(cut, "curve a 0 0 1 1 1 1;set depth 11;");
        Checks.due("load(31), a token that goes on behind it", -11, () -> cut.load(31));
        Checks.due("errorPosition(), the end of it", 31, () -> cut.errorPosition());
    }

    private static void emptying() {
        Checks.says(3, "empties the buffer");
        CurveMeetings x = new CurveMeetings();
        Texts.feed(x, "set depth 2; set limit 2; set depth 3;");
        Checks.due("load of a part", 1, () -> x.load(12));
        Checks.due("load(1) of the rest", -2, () -> x.load(1));
        Checks.due("load(0) of the rest", 0, () -> x.load(0));
        Checks.due("getSetting(DEPTH) of an empty text", 4, () -> x.getSetting(1));
        Texts.feed(x, "set depth 5;");
        Checks.due("load(0) of 20 bytes", 0, () -> x.load(0));
        Checks.due("load(1) after load(0)", -2, () -> x.load(1));
        Checks.due("feed after load(0)", 20, () -> x.feed(BLANK, BLANK, BLANK, BLANK, BLANK));
        Checks.says(3, "If the text has an error, .. it is emptied all the same");
        Texts.feed(x, "!");
        Checks.due("load(40) with an error", -11, () -> x.load(40));
        Checks.due("load(1) then", -2, () -> x.load(1));
        Checks.due("feed then", 20, () -> x.feed(BLANK, BLANK, BLANK, BLANK, BLANK));
    }

    private static String curves(int count) {
        StringBuilder text = new StringBuilder();
        for (int k = 0; k < count; k++) {
            text.append("curve ").append((char) ('a' + k)).append(' ').append(k).append(" 0 1 1 1 1;");
        }
        return text.toString();
    }

    private static String lines(int count) {
        StringBuilder text = new StringBuilder();
        for (int k = 0; k < count; k++) {
            text.append("line ").append((char) ('p' + k)).append(" 0 1 ").append(k).append(';');
        }
        return text.toString();
    }

    private static void countingStatements() {
        Checks.says(3, "Returns the number of statements");
        reads(0, "");
        reads(0, " ");
        reads(1, "set limit 1;");
        String most = curves(8) + lines(6) + "set limit 1;set depth 1;";
        reads(16, most);
        reads(16, most + " ".repeat(800 - most.length()));
        reads(16, " ".repeat(800 - most.length()) + most);
        stopsAt(-11, 799, most + " ".repeat(799 - most.length()) + "!");
        stopsAt(-11, 800, most.substring(0, most.length() - 1) + " ".repeat(801 - most.length()));
        Checks.says(3, "Settings that the text does not give have their initial values");
        CurveMeetings x = new CurveMeetings();
        x.setSetting(0, 1);
        x.setSetting(1, 1);
        Texts.load(x, "set limit 2;");
        Checks.due("getSetting(LIMIT), which is given", 2, () -> x.getSetting(0));
        Checks.due("getSetting(DEPTH), which is not", 4, () -> x.getSetting(1));
        Texts.load(x, "set depth 6;");
        Checks.due("getSetting(LIMIT), which is not", 10, () -> x.getSetting(0));
        Checks.due("getSetting(DEPTH), which is given", 6, () -> x.getSetting(1));
        Checks.says(3, "After a successful load nothing can be undone");
        x.setSetting(1, 1);
        Checks.due("undoCount() before", 1, () -> x.undoCount());
        x.load(0);
        Checks.due("undoCount() of an empty text", 0, () -> x.undoCount());
        Checks.due("undo() of an empty text", -1, () -> x.undo());
        Checks.due("getSetting(DEPTH) of an empty text", 4, () -> x.getSetting(1));
    }

    private static void failedLoads() {
        Checks.says(3, "If the text has an error, nothing but the buffer changes");
        CurveMeetings x = Texts.of("curve a 0 0 1 1 1 1; line l 0 1 1; set limit 7; set depth 6;");
        x.movePoint(0, 1, 2, 2);
        for (String text : new String[] {"curve b 5 5 2 6 6 2 7 7 2; line m 3 3 3; set limit 1; set depth 1; !",
            "!", "curve c 5 5 2 6 6 2 21", "line m 3 3 201", "set depth 1; set limit 13;", curves(8) + "curve"}) {
            Texts.load(x, text);
            Checks.due("curveCount() after '" + text + "'", 1, () -> x.curveCount());
            Checks.due("lineCount()", 1, () -> x.lineCount());
            Checks.due("curveNamed(a)", 0, () -> x.curveNamed(Texts.letters("a")));
            Checks.due("curveNamed(b)", -1, () -> x.curveNamed(Texts.letters("b")));
            Checks.due("degree(0)", 1, () -> x.degree(0));
            Checks.due("control(0, 1, 0)", 2, () -> x.control(0, 1, 0));
            Checks.due("lineNumber(0, 2)", 1, () -> x.lineNumber(0, 2));
            Checks.due("getSetting(LIMIT)", 7, () -> x.getSetting(0));
            Checks.due("getSetting(DEPTH)", 6, () -> x.getSetting(1));
            Checks.due("undoCount()", 1, () -> x.undoCount());
        }
        Checks.due("load of a good text after wrong ones", 3, () -> Texts.load(x, "curve b 0 0 1 1 1 1; set limit 2; set depth 2;"));
        Checks.due("curveCount() then", 1, () -> x.curveCount());
        Checks.due("lineCount() then", 0, () -> x.lineCount());
        Checks.due("lineNamed(m) then", -1, () -> x.lineNamed(Texts.letters("m")));
    }

    // ---- promise 4 ----

    private static void errorPositions() {
        Checks.says(4, "NOT_FOUND if .. there was none");
        CurveMeetings x = new CurveMeetings();
        Checks.due("errorPosition()", -1, () -> x.errorPosition());
        x.load(1);
        Checks.due("errorPosition() after BAD_VALUE alone", -1, () -> x.errorPosition());
        Checks.says(4, "the latest load that did not return BAD_VALUE");
        Texts.load(x, "!");
        Checks.due("errorPosition() of an error at 0", 0, () -> x.errorPosition());
        x.load(-1);
        Checks.due("errorPosition() after load(-1)", 0, () -> x.errorPosition());
        Texts.load(x, "set limit 3;");
        Checks.due("errorPosition() after no error", -1, () -> x.errorPosition());
        x.load(1);
        Checks.due("errorPosition() after no error and BAD_VALUE", -1, () -> x.errorPosition());
        Texts.load(x, " !");
        Texts.load(x, "set");
        Checks.due("errorPosition() of the later error", 3, () -> x.errorPosition());
        Texts.feed(x, "  !");
        x.load(21);
        Checks.due("errorPosition() after BAD_VALUE for a wrong text", 3, () -> x.errorPosition());
        x.load(3);
        Checks.due("errorPosition() of that text", 2, () -> x.errorPosition());
        x.load(0);
        Checks.due("errorPosition() after an empty text", -1, () -> x.errorPosition());
        Checks.says(4, "the position in bytes from the start of the text");
        stopsAt(-11, 0, "!");
        stopsAt(-11, 1, " !");
        stopsAt(-11, 1, "\n!");
        stopsAt(-11, 799, " ".repeat(799) + "!");
        CurveMeetings late = new CurveMeetings();
        Texts.feed(late, "set limit 3; set depth 3; !");
        late.load(9);
        Checks.due("errorPosition() of a text that ends too early", 9, () -> late.errorPosition());
    }

    // ---- tokens ----

    private static boolean isLetter(int sign) {
        return sign >= 'a' && sign <= 'z';
    }

    private static boolean isDigit(int sign) {
        return sign >= '0' && sign <= '9';
    }

    /** Each byte behind a digit, within a name and behind a statement. */
    private static void allSigns() {
        Checks.says(3, "Spaces (32) and newlines (10) .. Any other character is a token that is never allowed");
        for (int sign = 0; sign < 256; sign++) {
            char c = (char) sign;
            boolean blank = sign == 32 || sign == 10;
            if (blank) {
                reads(1, "set limit 1" + c + ";");
                reads(1, "set limit 1;" + c);
                reads(1, c + "set limit 1;");
                reads(1, "curve a" + c + "0 0 1 1 1 1;");
                reads(1, "line l -" + c + "1 1 1;");
                continue;
            }
            boolean limit = isDigit(sign) && sign <= '2';
            if (limit) {
                reads(1, "set limit 1" + c + ";");
            } else if (isDigit(sign)) {
                stopsAt(-12, 10, "set limit 1" + c + ";");
            } else {
                stopsAt(-11, sign == ';' ? 12 : 11, "set limit 1" + c + ";");
            }
            stopsAt(-11, 12, "set limit 1;" + c);
            stopsAt(-11, 0, c + "set limit 1;");
            if (isLetter(sign)) {
                reads(1, "curve a" + c + " 0 0 1 1 1 1;");
            } else if (isDigit(sign)) {
                // The digit is the first x: what follows is one integer too many.
                reads(1, "curve a" + c + " 0 1 1 1 1;");
            } else {
                stopsAt(-11, 7, "curve a" + c + " 0 0 1 1 1 1;");
            }
        }
    }

    private static void words() {
        Checks.says(3, "words (maximal runs of the letters a to z)");
        stops(-11, "^setlimit 1;");
        stops(-11, "^curvea 0 0 1 1 1 1;");
        stops(-11, "^linel 0 1 1;");
        stops(-11, "set ^limitx 1;");
        stops(-11, "set ^limi 1;");
        stops(-11, "set ^depthdepth 1;");
        stops(-11, "^cu rve a 0 0 1 1 1 1;");
        stops(-11, "^Set limit 1;");
        stops(-11, "^sEt limit 1;");
        stops(-11, "set ^Limit 1;");
        reads(1, "curve zaz 0 0 1 1 1 1;");
        reads(1, "curve a0 0 1 1 1 1;");
        reads(1, "set limit1;");
        reads(1, "set depth 1\n;");
        stops(-11, "^" + "a".repeat(800));
        stops(-11, "curve ^" + "z".repeat(700));
    }

    private static void integers() {
        Checks.says(3, "integers (maximal runs of decimal digits, read as unsigned numbers of any length)");
        reads(1, "set limit " + "0".repeat(700) + "12;");
        stops(-12, "set limit ^" + "0".repeat(700) + "13;");
        stops(-12, "set limit ^" + "0".repeat(700) + ";");
        stops(-12, "set limit ^1" + "0".repeat(700) + ";");
        stops(-12, "set limit ^" + "9".repeat(780) + ";");
        reads(1, "set limit 09;");
        stops(-12, "set limit ^90;");
        stops(-11, "set limit 1 ^2;");
        // 5 and a power of two or ten: what wraps around in 8, 16, 31, 32, 63 or 64 bits, or is cut off.
        for (String wide : new String[] {"261", "65541", "2147483653", "4294967301", "9223372036854775813",
            "18446744073709551621", "100005", "1000005", "1000000000005", "99999", "100000", "999999", "1000000",
            "2147483647", "2147483648", "4294967295", "4294967296", "9223372036854775807", "9223372036854775808",
            "18446744073709551615", "18446744073709551616"}) {
            stops(-12, "set limit ^" + wide + ";");
            stops(-12, "curve a 0 0 ^" + wide + " 1 1 1;");
            stops(-12, "line l ^" + wide + " 1 1;");
            stops(-12, "line l -^" + wide + " 1 1;");
            stops(-12, "line l 1 1 -^" + wide + ";");
        }
    }

    // ---- grammar ----

    /** A good text, and the same with each token in turn put out by one that is never allowed. */
    private static void spoil(int statements, String... tokens) {
        reads(statements, String.join(" ", tokens));
        for (int out = 0; out < tokens.length; out++) {
            StringBuilder text = new StringBuilder();
            int position = 0;
            for (int k = 0; k < tokens.length; k++) {
                if (k == out) {
                    position = text.length();
                    text.append("! ");
                } else {
                    text.append(tokens[k]).append(' ');
                }
            }
            stopsAt(-11, position, text.toString());
        }
    }

    private static void curveGrammar() {
        Checks.says(3, "statement = \"curve\" name point point { point } \";\"");
        spoil(1, "curve", "a", "0", "0", "1", "1", "1", "1", ";");
        spoil(1, "curve", "a", "0", "0", "1", "1", "1", "1", "2", "2", "2", ";");
        spoil(1, "curve", "a", "0", "0", "1", "1", "1", "1", "2", "2", "2", "3", "3", "3", ";");
        String[] numbers = {" 0", " 0", " 1", " 1", " 1", " 1", " 2", " 2", " 2", " 3", " 3", " 3"};
        StringBuilder text = new StringBuilder("curve a");
        for (int given = 0; given <= 12; given++) {
            if (given >= 6 && given % 3 == 0) {
                reads(1, text + ";");
                reads(1, text + " ;");
            } else {
                stops(-11, text + "^;");
                stops(-11, text + " ^;");
            }
            stops(-11, text + " ^-1;");
            stops(-11, text + " ^x;");
            stops(-11, text + " ^curve b 0 0 1 1 1 1;");
            if (given < 12) {
                text.append(numbers[given]);
            }
        }
        stops(-11, "^; curve a 0 0 1 1 1 1;");
        stops(-11, "curve a 0 0 1 1 1 1;^;");
        stops(-11, "curve ^; a");
        stops(-11, "curve ^0 0 1 1 1 1;");
    }

    private static void lineGrammar() {
        Checks.says(3, "\"line\" name value value value, value = [ \"-\" ] integer");
        spoil(1, "line", "l", "1", "2", "3", ";");
        spoil(1, "line", "l", "-", "1", "2", "3", ";");
        spoil(1, "line", "l", "1", "-", "2", "3", ";");
        spoil(1, "line", "l", "1", "2", "-", "3", ";");
        stops(-11, "line l^;");
        stops(-11, "line l 1^;");
        stops(-11, "line l 1 2^;");
        stops(-11, "line l 1 2 3 ^4;");
        stops(-11, "line l 1 2 3 ^-4;");
        stops(-11, "line l 1 2 3^");
        stops(-11, "line l -^;");
        stops(-11, "line l 1 -^;");
        stops(-11, "line l 1 2 -^;");
        stops(-11, "line l -^-1 2 3;");
        stops(-11, "line l 1 -^-2 3;");
        stops(-11, "line l 1 2 -^-3;");
        stops(-11, "line ^- l 1 2 3;");
        stops(-11, "line l 1 ^x 3;");
    }

    private static void settingGrammar() {
        Checks.says(3, "\"set\" setting integer, setting = \"limit\" | \"depth\"");
        spoil(1, "set", "limit", "3", ";");
        spoil(1, "set", "depth", "3", ";");
        for (String word : new String[] {"curve", "line", "set", "limits", "depths", "dept", "lim", "a"}) {
            stops(-11, "set ^" + word + " 3;");
        }
        stops(-11, "set limit^;");
        stops(-11, "set limit ^-3;");
        stops(-11, "set limit 3 ^4;");
        stops(-11, "set limit ^depth 3;");
        stops(-11, "set ^3;");
        stops(-11, "^limit 3;");
        stops(-11, "^depth 3;");
    }

    /** Each beginning of a statement: a word cut short, or a text that ends too early. */
    private static void earlyEnds() {
        Checks.says(3, "if the text ends too early, the position is its length");
        beginnings("curve ab 1 2 3 14 5 1 7 8 2", 5);
        beginnings("line ab -5 4 -200", 4);
        beginnings("set limit 12", 3);
        beginnings("set depth 6", 3);
        stopsAt(-11, 9, "set limit");
        stopsAt(-11, 12, "set limit   ");
        stopsAt(-11, 13, "set limit 3\n\n");
        stopsAt(-11, 800, " ".repeat(792) + "set " + " ".repeat(4));
        stopsAt(-11, 800, " ".repeat(797) + "set");
    }

    private static void beginnings(String text, int word) {
        reads(0, "");
        for (int length = 1; length <= text.length(); length++) {
            String start = text.substring(0, length);
            boolean cutSetting = start.startsWith("set ") && length > 4 && length < 9;
            stopsAt(-11, length < word ? 0 : cutSetting ? 4 : length, start);
        }
        reads(1, text + ";");
    }

    private static void names() {
        Checks.says(3, "A name is a word of 1 to 6 letters");
        for (String kind : new String[] {"curve ", "line "}) {
            String rest = kind.equals("curve ") ? " 0 0 1 1 1 1;" : " 0 1 1;";
            stops(-11, kind + "^" + rest.substring(1));
            reads(1, kind + "a" + rest);
            reads(1, kind + "z" + rest);
            reads(1, kind + "abcdef" + rest);
            reads(1, kind + "zzzzzz" + rest);
            stops(-11, kind + "^abcdefg" + rest);
            stops(-11, kind + "^zzzzzzz" + rest);
            stops(-11, kind + "^aaaaaaaaaaaaa" + rest);
            stops(-11, kind + "^-" + rest);
        }
        // The seventh letter makes it no name at all, even if the first six are one.
        stops(-11, "curve abcdef 0 0 1 1 1 1; curve ^abcdefg 0 0 1 1 1 1;");
        Checks.says(3, "other than curve, line, set, limit and depth");
        for (String word : RESERVED) {
            stops(-11, "curve ^" + word + " 0 0 1 1 1 1;");
            stops(-11, "line ^" + word + " 0 1 1;");
            reads(1, "curve " + word + "s 0 0 1 1 1 1;");
            reads(1, "line " + word + "s 0 1 1;");
            reads(1, "curve " + word.substring(1) + " 0 0 1 1 1 1;");
            reads(1, "line " + word.substring(0, word.length() - 1) + " 0 1 1;");
        }
        reads(3, "curve limits 0 0 1 1 1 1; line dept 0 1 1; set limit 1;");
    }

    // ---- ranges ----

    private static String curveWith(int at, String value) {
        String[] numbers = {"0", "0", "1", "1", "1", "1", "2", "2", "2", "3", "3", "3"};
        numbers[at] = value;
        return "curve a " + String.join(" ", numbers) + ";";
    }

    private static void points() {
        Checks.says(3, "a place (x and y, 0 to 20) and a weight (1 to 3); RANGE_ERROR: a number is outside its range");
        for (int at = 0; at < 12; at++) {
            boolean weight = at % 3 == 2;
            int position = curveWith(at, "^").indexOf('^');
            String[] good = weight ? new String[] {"1", "2", "3", "03"} : new String[] {"0", "1", "19", "20", "020"};
            String[] wrong = weight ? new String[] {"0", "4", "00", "10"} : new String[] {"21", "021", "99", "100", "200"};
            for (String value : good) {
                reads(1, curveWith(at, value));
                CurveMeetings x = Texts.of(curveWith(at, value));
                int k = at / 3;
                int what = at % 3;
                Checks.due("control(0, " + k + ", " + what + ")", Integer.parseInt(value), () -> x.control(0, k, what));
            }
            for (String value : wrong) {
                stopsAt(-12, position, curveWith(at, value));
            }
            stopsAt(-11, position, curveWith(at, "-1"));
            stopsAt(-11, position, curveWith(at, "-0"));
        }
    }

    private static String lineWith(int at, String value) {
        String[] numbers = {"1", "1", "1"};
        numbers[at] = value;
        return "line l " + String.join(" ", numbers) + ";";
    }

    private static void values() {
        Checks.says(3, "a and b from -5 to 5, c from -200 to 200; for a value that is out of range, of its integer");
        for (int at = 0; at < 3; at++) {
            int greatest = at < 2 ? 5 : 200;
            int position = lineWith(at, "^").indexOf('^');
            int what = at;
            for (int value : new int[] {-greatest, 1 - greatest, -1, 0, 1, greatest - 1, greatest}) {
                reads(1, lineWith(at, Integer.toString(value)));
                CurveMeetings x = Texts.of(lineWith(at, Integer.toString(value)));
                Checks.due("lineNumber(0, " + at + ")", value, () -> x.lineNumber(0, what));
            }
            for (int value : new int[] {greatest + 1, greatest + 2, 10 * greatest, 1000}) {
                stopsAt(-12, position, lineWith(at, Integer.toString(value)));
                stopsAt(-12, position + 1, lineWith(at, Integer.toString(-value)));
                stopsAt(-12, position + 3, lineWith(at, "-  " + value));
            }
            reads(1, lineWith(at, "-\n00" + greatest));
            reads(1, lineWith(at, "-0"));
        }
    }

    private static void bothZero() {
        Checks.says(3, "RANGE_ERROR: .. the integer of b that is 0 if a is 0, too");
        reads(1, "line l 0 1 0;");
        reads(1, "line l 0 -1 0;");
        reads(1, "line l 1 0 0;");
        reads(1, "line l -1 0 0;");
        reads(1, "line l -1 -0 0;");
        reads(1, "line l 0 5 0;");
        stops(-12, "line l 0 ^0 0;");
        stops(-12, "line l 0 ^0 1;");
        stops(-12, "line l -0 ^0 1;");
        stops(-12, "line l 0 -^0 1;");
        stops(-12, "line l -0 - ^000 1;");
        stops(-12, "line l 0 ^0");
        stops(-12, "line l 0 ^6 1;");
        stops(-11, "line l 0^;");
        stops(-11, "line l 0 -^;");
        // The second line has its own a: that of the first one does not count.
        stops(-12, "line l 1 0 0; line m 0 ^0 0;");
        reads(2, "line l 0 1 0; line m 1 0 0;");
    }

    private static void settingRanges() {
        Checks.says(3, "LIMIT (1 to 12, initially 10) and DEPTH (1 to 6, initially 4)");
        for (int value = 0; value <= 14; value++) {
            if (value >= 1 && value <= 12) {
                reads(1, "set limit " + value + ";");
                CurveMeetings x = Texts.of("set limit " + value + ";");
                Checks.due("getSetting(LIMIT)", value, () -> x.getSetting(0));
                Checks.due("getSetting(DEPTH)", 4, () -> x.getSetting(1));
            } else {
                stops(-12, "set limit ^" + value + ";");
            }
            if (value >= 1 && value <= 6) {
                reads(1, "set depth " + value + ";");
                CurveMeetings x = Texts.of("set depth " + value + ";");
                Checks.due("getSetting(DEPTH)", value, () -> x.getSetting(1));
                Checks.due("getSetting(LIMIT)", 10, () -> x.getSetting(0));
            } else {
                stops(-12, "set depth ^" + value + ";");
            }
        }
    }

    private static void duplicates() {
        Checks.says(3, "DUPLICATE_ERROR: a name that is already declared; one name space in common");
        String[] kinds = {"curve ", "line "};
        String[] rests = {" 0 0 1 1 1 1;", " 0 1 1;"};
        for (int first = 0; first < 2; first++) {
            for (int second = 0; second < 2; second++) {
                String start = kinds[first] + "abcdef" + rests[first];
                stops(-13, start + kinds[second] + "^abcdef" + rests[second]);
                stops(-13, start + kinds[second] + "^abcdef");
                reads(2, start + kinds[second] + "abcde" + rests[second]);
                reads(2, start + kinds[second] + "abcdeg" + rests[second]);
                reads(2, start + kinds[second] + "bcdef" + rests[second]);
            }
        }
        stops(-13, curves(8) + lines(1) + "line ^h 0 1 1;");
        stops(-13, curves(8) + lines(1) + "line ^a 0 1 1;");
        stops(-13, lines(6) + "curve ^u 0 0 1 1 1 1;");
        stops(-13, lines(6) + "curve ^p 0 0 1 1 1 1;");
        stops(-13, curves(7) + "curve ^g 0 0 1 1 1 1;");
        stops(-13, lines(5) + "line ^t 0 1 1;");
        Checks.says(3, "DUPLICATE_ERROR: .. the name of a setting that was already given");
        stops(-13, "set limit 1; set ^limit 1;");
        stops(-13, "set depth 1; set ^depth 1;");
        stops(-13, "set depth 4; set limit 10; set ^depth 4;");
        stops(-13, "set depth 4; set limit 10; set ^limit");
        stops(-13, "set limit 1; set ^limit 13;");
        reads(2, "set limit 1; set depth 1;");
        reads(2, "set depth 1; set limit 1;");
        CurveMeetings x = Texts.of("set limit 1; set depth 1;");
        Checks.due("the same settings in another text", 2, () -> Texts.load(x, "set limit 2; set depth 2;"));
        Checks.due("the same settings after an error", -11, () -> Texts.load(x, "set limit 2; set depth 2; set"));
        Checks.due("the same settings after an error", 2, () -> Texts.load(x, "set limit 2; set depth 2;"));
    }

    private static void tooMany() {
        Checks.says(3, "COUNT_ERROR: the word curve of a ninth curve");
        reads(7, curves(7));
        reads(8, curves(8));
        stops(-14, curves(8) + "^curve i 0 0 1 1 1 1;");
        stops(-14, curves(8) + "^curve a 0 0 1 1 1 1;");
        stops(-14, curves(8) + "^curve");
        stops(-14, curves(8) + "set limit 1; ^curve !");
        stops(-11, curves(8) + "^curves");
        reads(9, curves(8) + lines(1));
        Checks.says(3, "COUNT_ERROR: .. the word line of a seventh line");
        reads(5, lines(5));
        reads(6, lines(6));
        stops(-14, lines(6) + "^line v 0 1 1;");
        stops(-14, lines(6) + "^line p 0 1 1;");
        stops(-14, lines(6) + "^line");
        stops(-14, lines(6) + curves(1) + " ^line 0");
        reads(14, lines(6) + curves(8));
        Checks.says(3, "COUNT_ERROR: .. the first integer of a fifth point");
        String four = "curve a 0 0 1 1 1 1 2 2 2 3 3 3";
        reads(1, four + ";");
        stops(-14, four + " ^0;");
        stops(-14, four + " ^0 0 1;");
        stops(-14, four + " ^20 99 9;");
        stops(-14, four + " ^020");
        stops(-11, four + " ^x");
        stops(-11, four + " ^-1");
        stops(-11, four + "^");
        stops(-14, "curve b 0 0 1 1 1 1; " + four + " ^4 4 1;");
        Checks.says(3, "If several errors apply to one token, the one listed first is reported");
        stops(-12, four + " ^21");
        stops(-12, four + " ^21 21 4;");
        stops(-12, four + " ^" + "9".repeat(40));
    }

    private static void firstErrors() {
        Checks.says(3, "The first error in the order of the text is reported");
        stops(-12, "set limit ^13; set limit 1; !");
        stops(-12, "curve a ^21 21 4 1 1 1;");
        stops(-12, "curve a 0 ^21 4 1 1 1;");
        stops(-12, "curve a 0 0 ^4 21 1 1;");
        stops(-12, "curve a 0 0 ^4; line a 0 0 0;");
        stops(-11, "curve a 0 0 1^; line a 0 0 0;");
        stops(-13, "curve a 0 0 1 1 1 1; line ^a 6 0 0;");
        stops(-12, "line a ^6 0 0;");
        stops(-12, "line a 0 ^0 201");
        stops(-12, "line a 1 0 ^201");
        stops(-11, "^curved a; set limit 0;");
    }
}
