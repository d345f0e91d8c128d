import java.util.ArrayList;
import java.util.List;

/** The first lines of 'Terms': the refusals and their order, what they change, SETS, NONE; for every call. */
public final class EdgeTermsTest {
    private static final int UNKNOWN = ChairDen.UNKNOWN, OUTSIDE = ChairDen.OUTSIDE, NOT = ChairDen.NOT, FULL = ChairDen.FULL;
    private static final int NONE = ChairDen.NONE;
    /** Numbers at and about all bounds of the document, and the ends of what a number can be. */
    private static final int[] NUMBERS = {Integer.MIN_VALUE, Integer.MIN_VALUE + 1, -1004, -1003, -1002, -1001, -1000, -2, -1, 0, 1, 2,
        3, 4, 5, 7, 8, 9, 11, 12, 13, 20, 21, 60, 63, 64, 99, 100, 500, 999, 1000, 4095, 4096, Integer.MAX_VALUE - 1, Integer.MAX_VALUE};

    private static final int CALLS = 32;

    private static long drawn = 20261120L;

    private EdgeTermsTest() {
    }

    public static void main(String[] args) {
        constants();
        sets();
        unknownFirst();
        outsideFirst();
        notFirst();
        refusedChangesNothing();
        neverThrows();
        Edge.end();
    }

    private static void constants() {
        Edge.of("The public face", "NONE = -1, UNKNOWN = -1001, OUTSIDE = -1002, NOT = -1003, FULL = -1004");
        Edge.due("NONE", NONE, -1);
        Edge.due("UNKNOWN", UNKNOWN, -1001);
        Edge.due("OUTSIDE", OUTSIDE, -1002);
        Edge.due("NOT", NOT, -1003);
        Edge.due("FULL", FULL, -1004);
    }

    private static void sets() {
        Edge.of("Terms", "A SET is a whole number, bit k for k");
        String loose = "thing 0 1 99 99 9; thing 1 1 99 99 9; cloth 0 1 2 1 9; hold 0 0 peg; hold 0 1 peg;";
        Edge.due("change(0, 41)", Check.den(loose).change(0, 41), 1);
        Edge.due("change(1, 41)", Check.den(loose).change(1, 41), 2);
        Edge.due("heap(1)", Check.den(loose).heap(1), 2);
        Edge.due("heap(2)", Check.den(loose).heap(2), 1);
        Edge.due("cells(8)", Check.den("thing 0 9 99 99 9; cloth 0 1 2 1 1; hold 0 0 peg;").cells(8), 2);
        Edge.due("of none: cells(9)", Check.den("thing 0 9 99 99 9; cloth 0 1 2 1 1; hold 0 0 peg;").cells(9), 0);
    }

    /** Eight things, each with its hold on one cloth, of which one gave; a full text and four wants. */
    private static ChairDen full() {
        StringBuilder s = new StringBuilder("cloth 0 8 8 1 9;");
        for (int t = 0; t < 8; t++) {
            s.append("thing ").append(9 * t).append(" 1 99 99 9;");
        }
        for (int t = 0; t < 8; t++) {
            s.append("hold 0 ").append(t).append(" peg;");
        }
        ChairDen x = Check.den(s.toString());
        for (int w = 0; w < 4; w++) {
            Edge.want(x, "room 1 high " + (w + 1));
        }
        Edge.fill(x, 500, '?');
        return x;
    }

    /** Such a one of which one hold gave, and a thing slid away from under another cloth of its own. */
    private static ChairDen away() {
        ChairDen x = Check.den("thing 0 1 20 1 9; cloth 0 1 1 1 1; cloth 9 1 1 1 1; hold 0 0 trapped; thing 9 1 99 99 9; hold 1 1 peg;");
        x.rest(0, 3);
        x.rest(1, 41);
        return x;
    }

    private static void unknownFirst() {
        Edge.of("Terms", "REFUSALS, of several the first in this order: UNKNOWN ahead of OUTSIDE");
        Edge.Start rich = Edge::richWithText;
        Edge.still(rich, "thing(4, 9)", UNKNOWN, x -> x.thing(4, 9));
        Edge.still(rich, "hold(4, 7)", UNKNOWN, x -> x.hold(4, 7));
        Edge.still(rich, "gives(4, 1000)", UNKNOWN, x -> x.gives(4, 1000));
        Edge.still(rich, "rest(4, 1000)", UNKNOWN, x -> x.rest(4, 1000));
        Edge.still(rich, "bears(4, 1000)", UNKNOWN, x -> x.bears(4, 1000));
        Edge.still(rich, "most(21, 13, 13, 4)", UNKNOWN, x -> x.most(21, 13, 13, 4));
        Edge.still(rich, "change(4, 1000)", UNKNOWN, x -> x.change(4, 1000));
        Edge.still(rich, "fasten(4, 5, 100)", UNKNOWN, x -> x.fasten(4, 5, 100));
        Edge.of("Terms", "REFUSALS, of several the first in this order: UNKNOWN ahead of NOT");
        Edge.still(rich, "leans(2, 0)", UNKNOWN, x -> x.leans(2, 0));
        Edge.still(rich, "leans(0, 64)", UNKNOWN, x -> x.leans(0, 64));
        Edge.still(ChairDen::new, "goBack(2)", UNKNOWN, x -> x.goBack(2));
        Edge.still(EdgeTermsTest::full, "most(5, 1, 1, 8) of eight", UNKNOWN, x -> x.most(5, 1, 1, 8));
    }

    private static void outsideFirst() {
        Edge.of("Terms", "REFUSALS, of several the first in this order: OUTSIDE ahead of NOT");
        Edge.still(EdgeTermsTest::away, "gives(1, 1000), it gave", OUTSIDE, x -> x.gives(1, 1000));
        Edge.still(EdgeTermsTest::away, "gives(1, 999), it gave", NOT, x -> x.gives(1, 999));
        Edge.still(EdgeTermsTest::away, "fasten(0, 5, 0), slid away", OUTSIDE, x -> x.fasten(0, 5, 0));
        Edge.still(EdgeTermsTest::away, "fasten(0, 2, 100), slid away", OUTSIDE, x -> x.fasten(0, 2, 100));
        Edge.still(EdgeTermsTest::away, "fasten(0, 2, 99), slid away", NOT, x -> x.fasten(0, 2, 99));
        Edge.still(EdgeTermsTest::full, "most(21, 1, 1, 0) of eight", OUTSIDE, x -> x.most(21, 1, 1, 0));
        Edge.still(EdgeTermsTest::full, "most(20, 1, 1, 0) of eight", NOT, x -> x.most(20, 1, 1, 0));
        Edge.still(EdgeTermsTest::full, "order(5, false, 0) of eight", OUTSIDE, x -> x.order(5, false, 0));
        Edge.still(EdgeTermsTest::full, "order(4, false, 0) of eight", NOT, x -> x.order(4, false, 0));
        Edge.still(ChairDen::new, "bumps(21, 0) of nothing", OUTSIDE, x -> x.bumps(21, 0));
        Edge.still(ChairDen::new, "bumps(20, 1000) of nothing", OUTSIDE, x -> x.bumps(20, 1000));
        Edge.still(ChairDen::new, "bumps(20, 999) of nothing", NOT, x -> x.bumps(20, 999));
        Edge.of("Terms", "REFUSALS, of several the first in this order: OUTSIDE ahead of FULL");
        Edge.still(EdgeTermsTest::full, "feed(9, 0) at 500", OUTSIDE, x -> x.feed(9, 0));
        Edge.still(EdgeTermsTest::full, "feed(8, 0) at 500", FULL, x -> x.feed(8, 0));
    }

    private static ChairDen fullWith(int bytes) {
        ChairDen x = full();
        x.den();
        Edge.fill(x, bytes, ' ');
        return x;
    }

    private static void notFirst() {
        Edge.of("Terms", "REFUSALS, of several the first in this order: NOT ahead of FULL");
        Edge.still(() -> fullWith(61), "a fifth want() of 61 bytes", NOT, ChairDen::want);
        Edge.still(() -> fullWith(60), "a fifth want() of 60 bytes", FULL, ChairDen::want);
        Edge.still(EdgeTermsTest::full, "a fifth want() of 500 bytes", NOT, ChairDen::want);
    }

    /** A call by its number in the face's order, and up to four numbers. */
    private static long call(ChairDen x, int number, int a, int b, int c, int d) {
        switch (number) {
            case 0: return x.feed(a, b * 4294967311L);
            case 1: return x.den();
            case 2: return x.want();
            case 3: return x.fault();
            case 4: return x.count(a);
            case 5: return x.thing(a, b);
            case 6: return x.hold(a, b);
            case 7: return x.hangs(a, b);
            case 8: return x.leans(a, b);
            case 9: return x.height(a);
            case 10: return x.gives(a, b);
            case 11: return x.rest(a, b);
            case 12: return x.event(a, b);
            case 13: return x.stands();
            case 14: return x.bears(a, b);
            case 15: return x.weakest(a);
            default: return moreCalls(x, number, a, b, c, d);
        }
    }

    private static long moreCalls(ChairDen x, int number, int a, int b, int c, int d) {
        switch (number) {
            case 16: return x.room(a, b);
            case 17: return x.cells(a);
            case 18: return x.rooms(a);
            case 19: return x.light(a);
            case 20: return x.most(a, b, c, d);
            case 21: return x.fewest();
            case 22: return x.order(a, (b & 1) != 0, c);
            case 23: return x.heap(a);
            case 24: return x.change(a, b);
            case 25: return x.fasten(a, b, c);
            case 26: return x.tower(a);
            case 27: return x.met(a);
            case 28: return x.seed(a);
            case 29: return x.bumps(a, b);
            case 30: return x.keep(a);
            default: return x.goBack(a);
        }
    }

    private static boolean isRefusal(long answer) {
        return answer <= UNKNOWN && answer >= FULL;
    }

    /** Every call by all pairs of numbers that it refuses from this start. */
    private static List<Edge.Call> refusedFrom(Edge.Start start) {
        List<Edge.Call> all = new ArrayList<>();
        for (int number = 0; number < CALLS; number++) {
            int call = number;
            for (int a : NUMBERS) {
                for (int b : NUMBERS) {
                    int c = NUMBERS[(a ^ b) & 31];
                    int d = NUMBERS[(a + b) & 31];
                    if (isRefusal(call(start.made(), call, a, b, c, d))) {
                        all.add(x -> call(x, call, a, b, c, d));
                    }
                }
            }
        }
        return all;
    }

    private static void refusedChangesNothing() {
        Edge.of("Terms", "What is refused changes nothing");
        Edge.Start[] starts = {ChairDen::new, Edge::richWithText, EdgeTermsTest::full, EdgeTermsTest::away};
        for (int i = 0; i < starts.length; i++) {
            List<Edge.Call> refused = refusedFrom(starts[i]);
            Edge.due("from start " + i + " many are refused", refused.size() > 5000 ? 1 : 0, 1);
            Edge.stillBehind(starts[i], "start " + i, refused);
        }
    }

    private static int draw(int n) {
        drawn = drawn * 6364136223846793005L + 1442695040888963407L;
        return (int) ((drawn >>> 33) % n);
    }

    /** One of the numbers, or a small one: so that not all calls are refused. */
    private static int number() {
        return draw(2) == 0 ? NUMBERS[draw(NUMBERS.length)] : draw(14) - 1;
    }

    private static void neverThrows() {
        Edge.of("The form of the code", "the machine never throws, whatever the numbers are");
        ChairDen x = Edge.rich();
        int calls = 100;
        long sum = 0;
        for (int i = 0; i < 100000; i++) {
            sum += call(x, draw(CALLS), number(), number(), number(), number());
            calls++;
            if (calls == 512) {
                calls = 100;
                int next = draw(3);
                x = next == 0 ? Edge.rich() : next == 1 ? fullWith(0) : away();
            }
        }
        Edge.due("all calls came back", sum == Long.MIN_VALUE ? 0 : 1, 1);
    }
}
