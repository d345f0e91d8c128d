import java.math.BigInteger;

/** Every boundary case of draws and images: promises 30 to 33, the end of 'Terms' 4, and the 512 calls. */
public final class EdgeDrawsTest {
    private static final int LOW = Edge.LOW, HIGH = Edge.HIGH;
    private static final int UNKNOWN = ChairDen.UNKNOWN, OUTSIDE = ChairDen.OUTSIDE, NOT = ChairDen.NOT, NONE = ChairDen.NONE;
    private static final int[] SEEDS = {0, 1, 2, 9, 12345, 65535, 65536, 1 << 30, 1103515245, 1103527590, HIGH - 1, HIGH};

    private EdgeDrawsTest() {
    }

    public static void main(String[] args) {
        seedBounds();
        seedWraps();
        drawOfThings();
        drawOfStrength();
        bumpsBounds();
        bumpsWithoutThings();
        bumpsCount();
        bumpsStay();
        imageBounds();
        imagesKeep();
        imagesNotKept();
        imagesApart();
        imagesGone();
        manyCalls();
        Edge.end();
    }

    private static void seedBounds() {
        Edge.of("Promise 30", "THE SEED becomes v (0 .. 2147483647): what it was. OUTSIDE.");
        Edge.refused(Edge::richWithText, "seed(#)", OUTSIDE, ChairDen::seed, -1, -2, LOW);
        ChairDen x = new ChairDen();
        Edge.due("0 at first: seed(HIGH)", x.seed(HIGH), 0);
        Edge.due("seed(0)", x.seed(0), HIGH);
        Edge.due("seed(1)", x.seed(1), 0);
        Edge.due("seed(-1)", x.seed(-1), OUTSIDE);
        Edge.due("seed(1), it stayed", x.seed(1), 1);
    }

    /** A DRAW as the document tells it, with numbers of any size. */
    private static long next(long seed) {
        return BigInteger.valueOf(seed).multiply(BigInteger.valueOf(1103515245)).add(BigInteger.valueOf(12345))
            .mod(BigInteger.TWO.pow(31)).longValue();
    }

    private static void seedWraps() {
        Edge.of("Terms 4", "THE SEED: it times 1103515245 and 12345, left over by 2 to the 31");
        for (int seed : SEEDS) {
            ChairDen x = Check.den("thing 60 1 99 99 9;");
            x.seed(seed);
            long due = seed;
            for (int n : new int[] {1, 2, 20}) {
                Edge.due("bumps(" + n + ", 0)", x.bumps(n, 0), 0);
                // Two draws a bump, whatever they are of.
                for (int i = 0; i < 2 * n; i++) {
                    due = next(due);
                }
                int was = x.seed(0);
                Edge.due("from " + seed + ", behind " + n + " more", was, due);
                x.seed(was);
            }
        }
        Edge.due("next of 0", next(0), 12345);
        Edge.due("next of 12345", next(12345), 1406932606);
    }

    /** So many things in the first row, each of which slides down by any bump. */
    private static ChairDen loose(int many) {
        StringBuilder s = new StringBuilder();
        for (int t = 0; t < many; t++) {
            s.append("thing ").append(t).append(" 1 99 0 9;");
        }
        return Check.den(s.toString());
    }

    private static void drawOfThings() {
        Edge.of("Terms 4", "the DRAW of n is it / 65536, left over by n: a DRAW of how many THINGS there are, a DRAW of b and 1");
        for (int many = 1; many <= 8; many++) {
            for (int seed : SEEDS) {
                for (int b : new int[] {0, 1, 2, 800}) {
                    long first = next(seed);
                    int thing = (int) (first / 65536 % many);
                    long strength = next(first) / 65536 % (b + 1);
                    ChairDen x = loose(many);
                    x.seed(seed);
                    int slid = strength > 0 ? 1 : 0;
                    Edge.due(many + " things, seed " + seed + ": bumps(1, " + b + ")", x.bumps(1, b), slid);
                    for (int t = 0; t < many; t++) {
                        Edge.due("thing(" + t + ", 0)", x.thing(t, 0), t == thing ? t + 8 * slid : t);
                    }
                }
            }
        }
    }

    private static void drawOfStrength() {
        Edge.of("Terms 4", "a bump so strong at that THING: from 0 to b");
        // Both ends come: 0 and b itself.
        for (int b : new int[] {0, 1, 998, 999}) {
            int most = 0;
            int least = HIGH;
            for (int seed = 0; seed < 4000; seed++) {
                long second = next(next(seed));
                int strength = (int) (second / 65536 % (b + 1));
                most = Math.max(most, strength);
                least = Math.min(least, strength);
            }
            Edge.due("draws of " + (b + 1) + ": the most", most, b);
            Edge.due("draws of " + (b + 1) + ": the least", least, 0);
        }
        // A tied hold bears 80 of them.
        for (int seed = 0; seed < 300; seed++) {
            int strength = (int) (next(next(seed)) / 65536 % 1000);
            ChairDen x = Check.den("thing 56 1 99 0 9; cloth 56 1 1 1 1; hold 0 0 tied;");
            x.seed(seed);
            Edge.due("seed " + seed + ", a bump of " + strength + ": bumps(1, 999)", x.bumps(1, 999), strength > 80 ? 1 : 0);
        }
    }

    private static void bumpsBounds() {
        Edge.of("Promise 31", "BUMPS by draws, n (1 .. 20) of b (0 .. 999) at most. OUTSIDE, NOT: there are no THINGS.");
        Edge.refused(Edge::richWithText, "bumps(#, 5)", OUTSIDE, (x, n) -> x.bumps(n, 5), -1, 0, 21, LOW, HIGH);
        Edge.refused(Edge::richWithText, "bumps(1, #)", OUTSIDE, (x, n) -> x.bumps(1, n), -1, 1000, LOW, HIGH);
        for (int n : new int[] {1, 20}) {
            for (int b : new int[] {0, 999}) {
                ChairDen x = Edge.rich();
                Edge.due("bumps(" + n + ", " + b + ")", x.bumps(n, b) >= 0 ? 1 : 0, 1);
                Edge.due("the seed is another", x.seed(0) == 77 ? 1 : 0, 0);
            }
        }
    }

    private static ChairDen clothAlone() {
        ChairDen x = Check.den("cloth 9 3 3 1 1;");
        x.seed(5);
        return x;
    }

    private static void bumpsWithoutThings() {
        Edge.of("Promise 31", "NOT: there are no THINGS (behind OUTSIDE)");
        Edge.refused(EdgeDrawsTest::clothAlone, "bumps(#, 5)", NOT, (x, n) -> x.bumps(n, 5), 1, 20);
        Edge.refused(EdgeDrawsTest::clothAlone, "bumps(1, #)", NOT, (x, n) -> x.bumps(1, n), 0, 999);
        Edge.refused(EdgeDrawsTest::clothAlone, "bumps(#, 5)", OUTSIDE, (x, n) -> x.bumps(n, 5), 0, 21);
        Edge.refused(EdgeDrawsTest::clothAlone, "bumps(1, #)", OUTSIDE, (x, n) -> x.bumps(1, n), -1, 1000);
        Edge.refused(ChairDen::new, "new: bumps(#, 0)", NOT, (x, n) -> x.bumps(n, 0), 1, 20);
        Edge.due("with one: bumps(1, 0)", loose(1).bumps(1, 0), 0);
    }

    private static void bumpsCount() {
        Edge.of("Promise 31", "how many EVENTS (in all)");
        // Each bump of 1 or more slides one of eight down, seven times each at most.
        for (int seed : SEEDS) {
            ChairDen x = loose(8);
            x.seed(seed);
            long at = seed;
            int[] rows = new int[8];
            int all = 0;
            int last = 0;
            for (int i = 0; i < 20; i++) {
                at = next(at);
                int t = (int) (at / 65536 % 8);
                at = next(at);
                last = at / 65536 % 3 > 0 && rows[t] < 7 ? 1 : 0;
                rows[t] += last;
                all += last;
            }
            Edge.due("seed " + seed + ": bumps(20, 2)", x.bumps(20, 2), all);
            Edge.due("seed " + seed + ": count(5), of the latest REST", x.count(5), last);
            for (int t = 0; t < 8; t++) {
                Edge.due("seed " + seed + ": thing(" + t + ", 0)", x.thing(t, 0), 8 * rows[t] + t);
            }
        }
        // All rounds of each: 60 by 60.
        ChairDen x = Check.den("thing 27 3 99 0 9; cloth 27 1 2 1 1; hold 0 0 trapped;");
        Edge.due("to and fro: bumps(1, 0)", x.bumps(1, 0), 60);
        Edge.due("to and fro: bumps(20, 0)", x.bumps(20, 0), 1200);
        Edge.due("to and fro: count(5)", x.count(5), 60);
    }

    private static void bumpsStay() {
        Edge.of("Terms 4", "BUMPS by draws .. then REST .. (it stays so)");
        ChairDen x = loose(1);
        Edge.due("bumps(20, 800)", x.bumps(20, 800), 7);
        Edge.due("thing(0, 0), at the edge of the floor", x.thing(0, 0), 56);
        Edge.due("count(5)", x.count(5), 0);
        Edge.due("bumps(20, 800)", x.bumps(20, 800), 0);
        Edge.due("thing(0, 0)", x.thing(0, 0), 56);
    }

    private static void imageBounds() {
        Edge.of("Promise 32", "IMAGE i becomes what is so: 1. UNKNOWN. (IMAGES 0, 1)");
        Edge.refused(Edge::richWithText, "keep(#)", UNKNOWN, ChairDen::keep, -1, 2, LOW, HIGH);
        Edge.due("keep(0)", new ChairDen().keep(0), 1);
        Edge.due("keep(1)", new ChairDen().keep(1), 1);
        Edge.of("Promise 33", "What is so becomes IMAGE i: 1. UNKNOWN, NOT: it was not kept.");
        Edge.refused(Edge::richWithText, "goBack(#)", UNKNOWN, ChairDen::goBack, -1, 2, LOW, HIGH);
        Edge.refused(Edge::richWithText, "goBack(#)", NOT, ChairDen::goBack, 1);
        Edge.refused(ChairDen::new, "new: goBack(#)", NOT, ChairDen::goBack, 0, 1);
        Edge.refused(ChairDen::new, "new: goBack(#)", UNKNOWN, ChairDen::goBack, -1, 2);
        Edge.due("goBack(0)", Edge.rich().goBack(0), 1);
        Edge.still(() -> keptNow(0), "keep(0), goBack(0)", 1, x -> x.keep(0) * x.goBack(0));
        Edge.still(() -> keptNow(1), "goBack(1) of what is so", 1, x -> x.goBack(1));
    }

    private static ChairDen keptNow(int i) {
        ChairDen x = Edge.richWithText();
        x.keep(i);
        return x;
    }

    private static void imagesKeep() {
        Edge.of("Terms 4", "IMAGES keep where THINGS are, whether they lie, which HOLDS hold, their kinds, THE SEED");
        ChairDen x = Check.den("thing 0 1 99 0 9; thing 5 20 1 99 1; thing 7 1 99 99 9; cloth 7 1 1 1 1; cloth 7 1 1 1 1;"
            + "hold 0 2 book 27; hold 1 2 peg;");
        x.seed(HIGH);
        Edge.due("keep(1)", x.keep(1), 1);
        x.rest(0, 1);
        x.rest(1, 1);
        x.rest(2, 41);
        x.fasten(0, 2, 18);
        x.fasten(0, 4, 0);
        x.seed(3);
        int[] changed = {x.thing(0, 0), x.thing(1, 5), x.hold(0, 2), x.hold(0, 3), x.hold(0, 4), x.hold(1, 4), x.count(3)};
        int[] now = {8, 1, 4, 0, 1, 0, 1};
        Edge.due("goBack(1)", x.goBack(1), 1);
        int[] back = {x.thing(0, 0), x.thing(1, 5), x.hold(0, 2), x.hold(0, 3), x.hold(0, 4), x.hold(1, 4), x.count(3)};
        int[] was = {0, 0, 2, 27, 1, 1, 2};
        for (int i = 0; i < now.length; i++) {
            Edge.due("ahead of it, " + i, changed[i], now[i]);
            Edge.due("behind it, " + i, back[i], was[i]);
        }
        Edge.due("seed(0)", x.seed(0), HIGH);
        // As often as one likes; and what was kept first is kept no more behind a second keep().
        Edge.due("goBack(1) again", x.goBack(1), 1);
        Edge.due("seed(8) again", x.seed(8), HIGH);
        Edge.due("keep(1) again", x.keep(1), 1);
        x.seed(9);
        Edge.due("goBack(1)", x.goBack(1), 1);
        Edge.due("seed(0)", x.seed(0), 8);
    }

    private static void imagesNotKept() {
        Edge.of("Terms 4", "IMAGES keep no EVENTS, WANTS, THE TEXT, the FAULT");
        ChairDen x = Edge.rich();
        x.keep(1);
        Edge.due("rest(0, 11)", x.rest(0, 11) > 0 ? 1 : 0, 1);
        int events = x.count(5);
        int first = x.event(0, 0);
        Edge.want(x, "room 7");
        Check.feed(x, "b");
        Edge.due("den()", x.den(), -11);
        Check.feed(x, "bar");
        Edge.due("goBack(1)", x.goBack(1), 1);
        Edge.due("count(5)", x.count(5), events);
        Edge.due("event(0, 0)", x.event(0, 0), first);
        Edge.due("count(4)", x.count(4), 3);
        Edge.due("count(6)", x.count(6), 3);
        Edge.due("fault()", x.fault(), 0);
    }

    private static void imagesApart() {
        Edge.of("Terms 4", "IMAGES 0, 1: each for itself");
        ChairDen x = loose(2);
        x.keep(0);
        x.rest(0, 1);
        x.seed(4);
        x.keep(1);
        x.rest(1, 1);
        x.seed(5);
        for (int i = 0; i < 3; i++) {
            Edge.due("goBack(0)", x.goBack(0), 1);
            Edge.due("thing(0, 0)", x.thing(0, 0), 0);
            Edge.due("thing(1, 0)", x.thing(1, 0), 1);
            Edge.due("seed(7)", x.seed(7), 0);
            x.rest(0, 1);
            x.rest(1, 1);
            Edge.due("goBack(1)", x.goBack(1), 1);
            Edge.due("thing(0, 0)", x.thing(0, 0), 8);
            Edge.due("thing(1, 0)", x.thing(1, 0), 1);
            Edge.due("seed(7)", x.seed(7), 4);
        }
    }

    private static void imagesGone() {
        Edge.of("Promise 3", "IMAGES are gone (but not by a FAULT)");
        ChairDen x = Edge.rich();
        x.keep(1);
        Check.feed(x, "bar 0");
        Edge.due("den() with a fault", x.den(), -12);
        Edge.due("goBack(0)", x.goBack(0), 1);
        Edge.due("goBack(1)", x.goBack(1), 1);
        Edge.due("den() of nothing", x.den(), 0);
        Edge.due("goBack(0)", x.goBack(0), NOT);
        Edge.due("goBack(1)", x.goBack(1), NOT);
        Edge.due("keep(0)", x.keep(0), 1);
        Edge.due("goBack(0)", x.goBack(0), 1);
        Edge.due("goBack(1)", x.goBack(1), NOT);
    }

    private static void manyCalls() {
        Edge.of("What it is", "used for at most 512 calls: the dearest ones, and the last of them");
        StringBuilder s = new StringBuilder("cloth 0 8 8 9 1;");
        for (int t = 0; t < 7; t++) {
            s.append("thing ").append(9 * t).append(" 20 99 ").append(t).append(" 9;hold 0 ").append(t).append(" peg;");
        }
        int calls = (s.length() + 7) / 8 + 1;
        ChairDen x = Check.den(s.toString());
        long sum = 0;
        while (calls < 511) {
            int n = calls % 13;
            switch (calls % 7) {
                case 0: sum += x.most(1 + n, n, 12 - n, NONE); break;
                case 1: sum += x.order(n % 5, n % 2 == 0, NONE); break;
                case 2: sum += x.change(n % 7, 77 * n); break;
                case 3: sum += x.weakest(n % 7); break;
                case 4: sum += x.heap(n); break;
                case 5: sum += x.tower(NONE); break;
                default: sum += x.fewest(); break;
            }
            calls++;
        }
        Edge.due("all of them answered", sum == 0 ? 0 : 1, 1);
        Edge.due("the 512th: count(3)", x.count(3), 7);
    }
}
