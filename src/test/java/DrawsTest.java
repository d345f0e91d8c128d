/** Promises 30 to 33: the seed, bumps by draws, images. */
public final class DrawsTest {
    private static final String DEN = "thing 0 10 20 9 6; thing 7 9 30 9 7; thing 42 8 40 5 8; cloth 0 1 8 2 1;"
        + "cloth 33 2 2 3 2; hold 0 0 peg; hold 0 1 book 12; hold 1 2 tied;";

    private static long drawn;

    private DrawsTest() {
    }

    public static void main(String[] args) {
        seeds();
        bumps();
        bumpsStay();
        images();
        imagesApart();
        refusals();
        Check.end();
    }

    private static void seeds() {
        ChairDen x = new ChairDen();
        Check.due("seed(7)", x.seed(7), 0);
        Check.due("seed(MAX)", x.seed(Integer.MAX_VALUE), 7);
        Check.due("seed(-1)", x.seed(-1), ChairDen.OUTSIDE);
        Check.due("seed(MIN)", x.seed(Integer.MIN_VALUE), ChairDen.OUTSIDE);
        Check.due("seed(0)", x.seed(0), Integer.MAX_VALUE);
        // Two draws a bump: 12345, and from that 3554416254 and so on, left over.
        x = Check.den(DEN);
        x.bumps(1, 0);
        Check.due("behind one bump", x.seed(0), (12345L * 1103515245L + 12345L) % 2147483648L);
    }

    private static int draw(int n) {
        drawn = (drawn * 1103515245L + 12345L) % 2147483648L;
        return (int) (drawn / 65536 % n);
    }

    /** The same bumps one by one, by rest() of another object. */
    private static void bumps() {
        int events = 0;
        for (int seed : new int[] {0, 1, 9, 4711, 99999999, Integer.MAX_VALUE}) {
            for (int b : new int[] {0, 1, 30, 300, 999}) {
                for (int n : new int[] {1, 2, 20}) {
                    ChairDen x = Check.den(DEN);
                    ChairDen y = Check.den(DEN);
                    x.seed(seed);
                    drawn = seed;
                    int all = 0;
                    for (int i = 0; i < n; i++) {
                        int t = draw(3);
                        int strength = draw(b + 1);
                        all += y.rest(t, strength);
                    }
                    String name = "seed " + seed + ": bumps(" + n + ", " + b + ")";
                    Check.due(name, x.bumps(n, b), all);
                    Check.due(name + ": count(5)", x.count(5), y.count(5));
                    Check.due(name + ": count(3)", x.count(3), y.count(3));
                    for (int t = 0; t < 3; t++) {
                        Check.due(name + ": thing(t, 0)", x.thing(t, 0), y.thing(t, 0));
                        Check.due(name + ": thing(t, 5)", x.thing(t, 5), y.thing(t, 5));
                    }
                    Check.due(name + ": seed", x.seed(0), drawn);
                    events += all;
                }
            }
        }
        Check.due("there were events", events > 20 ? 1 : 0, 1);
    }

    private static void bumpsStay() {
        // One thing that slides down by any bump: row by row, as long as it can.
        ChairDen x = Check.den("thing 0 1 99 0 9;");
        Check.due("bumps(20, 999)", x.bumps(20, 800), 7);
        Check.due("thing(0, 0)", x.thing(0, 0), 56);
        Check.due("count(5), of the latest rest alone", x.count(5), 0);
        Check.due("bumps(1, 0)", x.bumps(1, 0), 0);
    }

    private static void images() {
        ChairDen x = Check.den(DEN);
        Check.due("goBack(0)", x.goBack(0), ChairDen.NOT);
        Check.due("goBack(1)", x.goBack(1), ChairDen.NOT);
        x.seed(77);
        Check.due("keep(0)", x.keep(0), 1);
        Check.due("goBack(1)", x.goBack(1), ChairDen.NOT);
        Check.due("fasten(1, 0, 0)", x.fasten(1, 0, 0), 2);
        x.seed(5);
        Check.due("rest(1, 999)", x.rest(1, 999) > 0 ? 1 : 0, 1);
        int events = x.count(5);
        Check.due("keep(1)", x.keep(1), 1);
        Check.due("goBack(0)", x.goBack(0), 1);
        Check.due("hold(1, 2)", x.hold(1, 2), 2);
        Check.due("hold(1, 3)", x.hold(1, 3), 12);
        Check.due("hold(1, 4)", x.hold(1, 4), 1);
        Check.due("thing(1, 5)", x.thing(1, 5), 0);
        // Events are no part of an image, nor wants.
        Check.due("count(5)", x.count(5), events);
        Check.due("seed(3)", x.seed(3), 77);
        Check.due("goBack(1)", x.goBack(1), 1);
        Check.due("hold(1, 2)", x.hold(1, 2), 0);
        Check.due("hold(1, 3)", x.hold(1, 3), 0);
        Check.due("hold(1, 4)", x.hold(1, 4), 0);
        Check.due("seed(3)", x.seed(3), 5);
        // Kept again, it is what is so now; and one goes back as often as one likes.
        Check.due("keep(0)", x.keep(0), 1);
        Check.due("fasten(1, 3, 0)", x.fasten(1, 3, 0), 0);
        Check.due("goBack(0)", x.goBack(0), 1);
        Check.due("hold(1, 2)", x.hold(1, 2), 0);
        Check.due("goBack(0)", x.goBack(0), 1);
        Check.due("seed(0)", x.seed(0), 3);
    }

    private static void imagesApart() {
        // What happens behind going back leaves the image as it was.
        ChairDen x = Check.den("thing 0 1 99 0 9; thing 5 9 9 9 1;");
        Check.due("keep(1)", x.keep(1), 1);
        for (int i = 0; i < 2; i++) {
            Check.due("rest(0, 1)", x.rest(0, 1), 1);
            Check.due("rest(1, 9)", x.rest(1, 9), 1);
            Check.due("thing(0, 0)", x.thing(0, 0), 8);
            Check.due("thing(1, 5)", x.thing(1, 5), 1);
            Check.due("goBack(1)", x.goBack(1), 1);
            Check.due("thing(0, 0)", x.thing(0, 0), 0);
            Check.due("thing(1, 5)", x.thing(1, 5), 0);
        }
    }

    private static void refusals() {
        ChairDen x = Check.den(DEN);
        for (int bad : new int[] {-1, 2, Integer.MIN_VALUE, Integer.MAX_VALUE}) {
            Check.due("keep(" + bad + ")", x.keep(bad), ChairDen.UNKNOWN);
            Check.due("goBack(" + bad + ")", x.goBack(bad), ChairDen.UNKNOWN);
        }
        for (int bad : new int[] {0, -1, 21, Integer.MIN_VALUE, Integer.MAX_VALUE}) {
            Check.due("bumps(" + bad + ", 1)", x.bumps(bad, 1), ChairDen.OUTSIDE);
        }
        for (int bad : new int[] {-1, 1000, Integer.MIN_VALUE, Integer.MAX_VALUE}) {
            Check.due("bumps(1, " + bad + ")", x.bumps(1, bad), ChairDen.OUTSIDE);
        }
        Check.due("seed(0), not drawn from", x.seed(0), 0);
        x = new ChairDen();
        Check.due("no things: bumps(1, 1)", x.bumps(1, 1), ChairDen.NOT);
        Check.due("no things: bumps(0, 1)", x.bumps(0, 1), ChairDen.OUTSIDE);
        Check.due("no things: seed(0)", x.seed(0), 0);
        Check.due("no things: keep(0)", x.keep(0), 1);
        Check.due("no things: goBack(0)", x.goBack(0), 1);
    }
}
