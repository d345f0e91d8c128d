import java.nio.charset.StandardCharsets;

/** What all tests share: comparing answers, and feeding texts byte by byte. */
final class Check {
    private static int wrong = 0;
    private static int asked = 0;

    private Check() {
    }

    /** Likewise; what was told before the call is put into words only if it is needed. */
    static void due(StringBuilder before, String call, long got, long want) {
        due(got == want ? call : before + call, got, want);
    }

    static void due(String call, long got, long want) {
        asked++;
        if (got != want) {
            wrong++;
            System.out.println(call + " answered " + got + ", due is " + want);
        }
    }

    static int wrongSoFar() {
        return wrong;
    }

    /** Ends the test: with 1, if an answer was wrong. */
    static void end() {
        System.out.println(asked + " answers, " + wrong + " wrong");
        if (wrong != 0) {
            System.exit(1);
        }
    }

    /** The text's bytes, 8 at most from one place on, as the long that feed() takes. */
    static long packed(byte[] bytes, int from, int n) {
        long all = 0;
        for (int i = 0; i < n; i++) {
            all = all << 8 | (bytes[from + i] & 255);
        }
        return all;
    }

    static void feed(ChairDen x, String text) {
        byte[] bytes = text.getBytes(StandardCharsets.ISO_8859_1);
        for (int i = 0; i < bytes.length; i += 8) {
            int n = Math.min(8, bytes.length - i);
            x.feed(n, packed(bytes, i, n));
        }
    }

    /** A new object with this den. */
    static ChairDen den(String text) {
        ChairDen x = new ChairDen();
        feed(x, text);
        int answer = x.den();
        if (answer < 0) {
            due("den() of '" + text + "' (fault at " + x.fault() + ")", answer, 0);
        }
        return x;
    }

    /** A text that has this fault at this place, as a den. */
    static void denFault(String text, int fault, int place) {
        ChairDen x = new ChairDen();
        feed(x, text);
        due("den() of '" + text + "'", x.den(), -10 - fault);
        due("fault() of '" + text + "'", x.fault(), place);
    }

    /** A text that has this fault at this place, as a want. */
    static void wantFault(String text, int fault, int place) {
        ChairDen x = new ChairDen();
        feed(x, text);
        due("want() of '" + text + "'", x.want(), -10 - fault);
        due("fault() of '" + text + "'", x.fault(), place);
    }

    /** A text that is a den without a fault, with so many holds. */
    static void denFine(String text, int holds) {
        ChairDen x = new ChairDen();
        feed(x, text);
        due("den() of '" + text + "'", x.den(), holds);
        due("fault() of '" + text + "'", x.fault(), -1);
    }

    static int set(int... members) {
        int all = 0;
        for (int k : members) {
            all |= 1 << k;
        }
        return all;
    }
}
