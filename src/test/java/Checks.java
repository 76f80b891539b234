/** What the tests share: counting what is due, and telling an object a text. */
final class Checks {
    static final int NOTHING = -2000000000;

    private static int passed = 0;
    private static int wrong = 0;

    private Checks() {
    }

    static void due(String what, long want, long got) {
        if (got == want) {
            passed++;
        } else {
            wrong++;
            System.out.println(what + ": answered " + got + ", due is " + want);
        }
    }

    static void finish() {
        System.out.println(passed + " as due, " + wrong + " not");
        if (wrong != 0 || passed == 0) {
            System.exit(1);
        }
    }

    /** Puts a text on the tape, byte by byte as its signs are. */
    static void tape(TallBins x, String text) {
        x.end(0);
        for (int i = 0; i < text.length(); i += 20) {
            x.feed(four(text, i), four(text, i + 4), four(text, i + 8), four(text, i + 12), four(text, i + 16));
        }
        x.end(text.length());
    }

    private static int four(String text, int from) {
        int n = 0;
        for (int i = from; i < from + 4; i++) {
            n = n << 8 | (i < text.length() ? text.charAt(i) & 0xFF : 0);
        }
        return n;
    }

    static int tell(TallBins x, String text) {
        tape(x, text);
        return x.text();
    }

    /** A new object with a text that must be without a fault. */
    static TallBins house(String text) {
        TallBins x = new TallBins();
        int lines = tell(x, text);
        if (lines < 0) {
            due("text " + text + " at " + x.fault(1), 0, lines);
        }
        return x;
    }

    static int[] ring(TallBins x, int bin, int ring) {
        int[] all = new int[13];
        for (int what = 0; what < all.length; what++) {
            all[what] = x.ring(bin, ring, what);
        }
        return all;
    }
}
