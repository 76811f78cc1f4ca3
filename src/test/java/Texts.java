import java.nio.charset.StandardCharsets;

/** Feeds texts to objects, and packs names. */
final class Texts {
    private Texts() {
    }

    /** The figure of the shared tests: a curve that touches the first line, and one that lies on it. */
    static final String ARCH = "curve arch 0 0 1 10 10 1 20 0 1; curve b 0 5 1 20 5 1;"
        + " line m 0 1 -5; line z 1 0 0; set depth 1;";

    static void feed(CurveMeetings x, String text) {
        byte[] bytes = text.getBytes(StandardCharsets.ISO_8859_1);
        int[] words = new int[(bytes.length + 19) / 20 * 5];
        for (int k = 0; k < words.length * 4; k++) {
            int sign = k < bytes.length ? bytes[k] & 255 : ' ';
            words[k / 4] |= sign << 24 - k % 4 * 8;
        }
        for (int k = 0; k < words.length; k += 5) {
            x.feed(words[k], words[k + 1], words[k + 2], words[k + 3], words[k + 4]);
        }
    }

    /** Feeds a text and loads just that. */
    static int load(CurveMeetings x, String text) {
        feed(x, text);
        return x.load(text.length());
    }

    static CurveMeetings of(String text) {
        CurveMeetings x = new CurveMeetings();
        int statements = load(x, text);
        if (statements < 0) {
            throw new IllegalArgumentException(text + " answered " + statements + " at " + x.errorPosition());
        }
        return x;
    }

    static int letters(String name) {
        int packed = 0;
        for (int k = 0; k < 6; k++) {
            packed = packed << 5 | (k < name.length() ? name.charAt(k) - 'a' + 1 : 0);
        }
        return packed;
    }
}
