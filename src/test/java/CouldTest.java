/** Promises 22 to 29: what could be: kinds, orders, heaps, changes, towers, wants. */
public final class CouldTest {
    /** Two chairs at the ends of a row: each bears its half of the cloth, neither bears it whole. */
    private static final String PAIR = "thing 0 10 12 99 6; thing 7 10 12 99 6; cloth 0 1 8 2 1;"
        + "hold 0 0 peg; hold 0 1 peg;";

    private CouldTest() {
    }

    public static void main(String[] args) {
        most();
        mostFromWhatIs();
        fewest();
        orders();
        ordersByHands();
        heaps();
        changes();
        changesOfTwo();
        fastening();
        towers();
        wants();
        limitsOfSeven();
        refusals();
        Check.end();
    }

    /** One chair that draws by 7 times G, all of it from a row of cloth. */
    private static ChairDen line(int g, int rub) {
        return Check.den("thing 0 10 99 " + rub + " 9; cloth 0 1 8 " + g + " 1; hold 0 0 laid;");
    }

    private static void most() {
        ChairDen x = line(5, 0);
        Check.due("laid gives: most(5, 0, 0, -1)", x.most(5, 0, 0, -1), 0);
        Check.due("laid gives: most(5, 0, 0, 0)", x.most(5, 0, 0, 0), 0);
        // Smooth as it is, it gives laid, but not by a peg or a book.
        x = line(5, 4);
        Check.due("most(5, 0, 0, -1)", x.most(5, 0, 0, -1), 0);
        Check.due("most(5, 1, 0, -1)", x.most(5, 1, 0, -1), 5);
        Check.due("most(5, 1, 0, 0)", x.most(5, 1, 0, 0), 1);
        Check.due("most(5, 0, 1, -1)", x.most(5, 0, 1, -1), 5);
        Check.due("most(5, 0, 1, 0)", x.most(5, 0, 1, 0), 2);
        // Of like ones the first row.
        Check.due("most(5, 1, 1, 0)", x.most(5, 1, 1, 0), 1);
        Check.due("most(5, 12, 12, 0)", x.most(5, 12, 12, 0), 1);
        Check.due("most(8, 1, 0, -1)", x.most(8, 1, 0, -1), 2);
        x = line(5, 99);
        Check.due("laid holds: most(5, 1, 1, 0)", x.most(5, 1, 1, 0), 0);
        Check.due("laid holds: most(5, 1, 1, -1)", x.most(5, 1, 1, -1), 5);
        // A peg and a book bear no more than 40.
        x = line(6, 4);
        Check.due("too much: most(5, 1, 1, -1)", x.most(5, 1, 1, -1), 0);
        Check.due("too much: most(5, 1, 1, 0)", x.most(5, 1, 1, 0), 0);
        // One number alone asked otherwise is another question.
        x = line(5, 4);
        for (int i = 0; i < 2; i++) {
            Check.due("turns: most(5, 0, 0, -1)", x.most(5, 0, 0, -1), 0);
            Check.due("turns: most(5, 0, 1, -1)", x.most(5, 0, 1, -1), 5);
            Check.due("turns: most(6, 0, 1, -1)", x.most(6, 0, 1, -1), 4);
            Check.due("turns: most(6, 0, 0, -1)", x.most(6, 0, 0, -1), 0);
            Check.due("turns: most(6, 1, 0, -1)", x.most(6, 1, 0, -1), 4);
        }
        mostByWeights();
        mostTogether();
        // So many pegs at most, and by which they are best.
        x = Check.den("thing 0 9 99 4 9; thing 56 9 99 4 9; cloth 0 1 2 1 1; cloth 56 1 4 1 1;"
            + "hold 0 0 laid; hold 1 1 laid;");
        Check.due("one peg: most(6, 1, 0, -1)", x.most(6, 1, 0, -1), 3);
        Check.due("one peg: most(6, 1, 0, 0)", x.most(6, 1, 0, 0), 0);
        Check.due("one peg: most(6, 1, 0, 1)", x.most(6, 1, 0, 1), 1);
        Check.due("none: most(6, 0, 0, -1)", x.most(6, 0, 0, -1), 0);
        Check.due("one each: most(6, 1, 1, 1)", x.most(6, 1, 1, 1), 1);
        Check.due("a book: most(6, 0, 2, 1)", x.most(6, 0, 2, 1), 2);
        // What is tried changes nothing.
        Check.due("hold(0, 2)", x.hold(0, 2), 0);
        Check.due("hold(1, 4)", x.hold(1, 4), 1);
        Check.due("thing(1, 0)", x.thing(1, 0), 56);
        Check.due("count(5)", x.count(5), 0);
    }

    private static void mostTogether(ChairDen x, int p, int q, int cells, int... row) {
        Check.due("together: most(6, " + p + ", " + q + ", -1)", x.most(6, p, q, -1), cells);
        for (int k = 0; k < 3; k++) {
            Check.due("together: most(6, " + p + ", " + q + ", " + k + ")", x.most(6, p, q, k), row[k]);
        }
    }

    /** Three rows of cloth side by side, three cells of room under each that does not give: together one room. */
    private static void mostTogether() {
        ChairDen x = Check.den("thing 0 9 99 4 9; thing 8 9 99 4 9; thing 16 9 99 4 9;"
            + "cloth 0 1 4 1 1; cloth 8 1 4 1 1; cloth 16 1 4 1 1; hold 0 0 tied; hold 1 1 tied; hold 2 2 tied;");
        mostTogether(x, 0, 0, 0, 0, 0, 0);
        mostTogether(x, 1, 0, 3, 0, 0, 1);
        mostTogether(x, 0, 1, 3, 0, 0, 2);
        mostTogether(x, 2, 0, 6, 0, 1, 1);
        mostTogether(x, 1, 1, 6, 0, 1, 2);
        mostTogether(x, 0, 2, 6, 0, 2, 2);
        mostTogether(x, 3, 0, 9, 1, 1, 1);
        mostTogether(x, 2, 1, 9, 1, 1, 2);
        mostTogether(x, 1, 2, 9, 1, 2, 2);
        mostTogether(x, 0, 3, 9, 2, 2, 2);
        mostTogether(x, 12, 12, 9, 1, 1, 1);
        Check.due("together: fewest()", x.fewest(), 3);
    }

    /** A thing that slides from where its room is greater: a book weighs 20 on it, a peg nothing. */
    private static void mostByWeights() {
        String den = "cloth 0 1 7 2 1; thing 2 5 W 1 9; hold 0 0 tied;";
        ChairDen x = Check.den(den.replace("W", "6"));
        Check.due("heavy enough: most(1, 0, 1, -1)", x.most(1, 0, 1, -1), 4);
        Check.due("heavy enough: most(1, 1, 1, 0)", x.most(1, 1, 1, 0), 2);
        Check.due("heavy enough: fewest()", x.fewest(), -1);
        x = Check.den(den.replace("W", "5"));
        Check.due("too light: most(1, 0, 1, -1)", x.most(1, 0, 1, -1), 3);
        Check.due("too light: most(1, 1, 1, 0)", x.most(1, 1, 1, 0), 1);
        x = Check.den(den.replace("W", "25"));
        Check.due("with a peg: most(1, 1, 0, -1)", x.most(1, 1, 0, -1), 3);
        Check.due("with a peg: fewest()", x.fewest(), -1);
        x = Check.den(den.replace("W", "26"));
        Check.due("heavy itself: most(1, 1, 0, -1)", x.most(1, 1, 0, -1), 4);
        Check.due("heavy itself: fewest()", x.fewest(), 1);
    }

    private static void mostFromWhatIs() {
        ChairDen x = line(5, 4);
        Check.due("rest(-1, 0)", x.rest(-1, 0), 1);
        Check.due("count(3)", x.count(3), 0);
        // What gave is held again.
        Check.due("given: most(5, 1, 0, -1)", x.most(5, 1, 0, -1), 5);
        Check.due("given: fewest()", x.fewest(), 1);
        Check.due("given: count(3)", x.count(3), 0);
        // From where things are now, and as they lie now.
        Check.due("fasten(0, 4, 0)", x.fasten(0, 4, 0), 0);
        Check.due("rest(0, 999)", x.rest(0, 999), 1);
        Check.due("thing(0, 5)", x.thing(0, 5), 1);
        Check.due("lying: most(5, 1, 0, -1)", x.most(5, 1, 0, -1), 0);
        Check.due("lying: most(1, 1, 0, -1)", x.most(1, 1, 0, -1), 0);
        // Not so what has no cloth over it any more; the same question once more, behind another den.
        x = Check.den("thing 0 5 20 1 9; cloth 0 1 3 1 1; hold 0 0 laid;");
        Check.due("over it: most(3, 1, 0, -1)", x.most(3, 1, 0, -1), 2);
        Check.due("over it: rest(0, 16)", x.rest(0, 16) > 0 ? 1 : 0, 1);
        x = Check.den("thing 1 1 20 1 9; thing 9 6 99 99 9; cloth 1 1 1 1 1; cloth 9 1 3 1 1; hold 0 0 trapped; hold 1 1 peg;");
        Check.due("a thing in the way: rest(0, 3)", x.rest(0, 3), 0);
        Check.due("most(4, 1, 0, -1)", x.most(4, 1, 0, -1), 2);
        Check.feed(x, "thing 1 1 20 1 9; thing 19 6 99 99 9; cloth 1 1 1 1 1; cloth 19 1 4 1 1; hold 0 0 trapped; hold 1 1 peg;");
        Check.due("den()", x.den(), 2);
        Check.due("most(4, 1, 0, -1) of another", x.most(4, 1, 0, -1), 2);
        Check.due("most(3, 1, 0, -1) of another", x.most(3, 1, 0, -1), 3);
        Check.due("rest(0, 3)", x.rest(0, 3), 1);
        Check.due("hold(0, 4)", x.hold(0, 4), 0);
        Check.due("slid away: most(3, 1, 0, -1)", x.most(3, 1, 0, -1), 3);
        Check.due("slid away: fewest()", x.fewest(), 0);
    }

    private static void fewest() {
        Check.due("rough: fewest()", line(5, 99).fewest(), 0);
        Check.due("smooth: fewest()", line(5, 4).fewest(), 1);
        Check.due("too much: fewest()", line(6, 4).fewest(), -1);
        Check.due("no den: fewest()", new ChairDen().fewest(), 0);
        ChairDen x = Check.den("thing 0 9 99 4 9; thing 56 9 99 4 9; thing 32 9 99 99 9;"
            + "cloth 0 1 4 1 1; cloth 56 1 4 1 1; cloth 32 1 4 1 1; hold 2 2 book 5; hold 0 0 laid; hold 1 1 tied;");
        Check.due("two smooth, one rough: fewest()", x.fewest(), 2);
        Check.due("hold(1, 2)", x.hold(1, 2), 0);
    }

    private static void orders() {
        // Alone either would tip its chair.
        ChairDen x = Check.den(PAIR);
        Check.due("stands()", x.stands(), 1);
        Check.due("order(0, false, -1)", x.order(0, false, -1), -1);
        Check.due("order(0, false, 0)", x.order(0, false, 0), -1);
        Check.due("order(0, true, -1)", x.order(0, true, -1), -1);
        // The second chair bears it all: it comes first, and goes last.
        x = Check.den(PAIR.replace("thing 7 10 12 99 6", "thing 7 10 99 99 9"));
        Check.due("order(0, false, -1)", x.order(0, false, -1), 1);
        Check.due("order(0, false, 0)", x.order(0, false, 0), 1);
        Check.due("order(0, false, 1)", x.order(0, false, 1), 0);
        Check.due("order(0, false, 2)", x.order(0, false, 2), -1);
        Check.due("order(0, false, -2)", x.order(0, false, -2), -1);
        Check.due("order(0, true, 0)", x.order(0, true, 0), 0);
        Check.due("order(0, true, 1)", x.order(0, true, 1), 1);
        // Both bear it all: the lesser is ahead, both ways.
        x = Check.den(PAIR.replace("10 12 99 6", "10 99 99 9"));
        Check.due("both: order(0, false, 0)", x.order(0, false, 0), 0);
        Check.due("both: order(0, true, 0)", x.order(0, true, 0), 0);
        Check.due("both: order(0, true, 1)", x.order(0, true, 1), 1);
        // Only holds that hold are put up.
        Check.due("rest(0, 41)", x.rest(0, 41), 1);
        Check.due("one left: order(0, false, 0)", x.order(0, false, 0), 1);
        Check.due("one left: order(0, false, 1)", x.order(0, false, 1), -1);
        Check.due("one left: count(3)", x.count(3), 1);
        // Nothing to put up is an order, however the hands are.
        x = new ChairDen();
        Check.due("nothing: order(4, true, -1)", x.order(4, true, -1), 1);
        Check.due("nothing: order(4, true, 0)", x.order(4, true, 0), -1);
    }

    private static void ordersByHands() {
        ChairDen x = Check.den(PAIR);
        // The other one in a hand, both chairs have their halves alone.
        Check.due("one hand: order(1, false, -1)", x.order(1, false, -1), 1);
        Check.due("one hand: order(1, false, 0)", x.order(1, false, 0), 0);
        Check.due("one hand: order(1, false, 1)", x.order(1, false, 1), 1);
        // Taken down, both have to be in hands at last.
        Check.due("one hand: order(1, true, -1)", x.order(1, true, -1), -1);
        Check.due("two hands: order(2, true, -1)", x.order(2, true, -1), 1);
        Check.due("two hands: order(2, true, 1)", x.order(2, true, 1), 1);
        // A hand never gives: taken away, what would give alone does not.
        x = Check.den("thing 0 10 99 1 9; thing 7 10 99 99 9; cloth 0 1 8 7 1; hold 0 0 laid; hold 0 1 peg;");
        Check.due("all up: stands()", x.stands(), 0);
        Check.due("all up at last: order(4, false, -1)", x.order(4, false, -1), -1);
        Check.due("no hands: order(0, true, 0)", x.order(0, true, 0), -1);
        x = Check.den("thing 0 10 99 99 9; thing 7 10 99 99 9; cloth 0 1 8 7 1; hold 0 0 peg; hold 0 1 peg;");
        // Of 42 a peg gives, but what is leant on by the other chair is less: 6 times 7 are drawn at most.
        Check.due("pegs: order(0, false, -1)", x.order(0, false, -1), -1);
        Check.due("pegs: order(1, false, -1)", x.order(1, false, -1), 1);
        Check.due("pegs: order(1, true, -1)", x.order(1, true, -1), 1);
        Check.due("pegs: order(0, true, -1)", x.order(0, true, -1), -1);
        Check.due("hold(0, 2)", x.hold(0, 2), 1);
        Check.due("count(3)", x.count(3), 2);
        // Hands take the first of the others: so one hand is too few, if these are of no help.
        String three = "thing 0 10 12 99 6; thing 7 10 12 99 6; thing 56 5 99 99 9; cloth 0 1 8 2 1; cloth 56 1 2 1 1;";
        x = Check.den(three + "hold 1 2 peg; hold 0 0 peg; hold 0 1 peg;");
        Check.due("the sound one first: order(1, false, -1)", x.order(1, false, -1), -1);
        Check.due("the sound one first: order(2, false, -1)", x.order(2, false, -1), 1);
        Check.due("the sound one first: order(2, false, 0)", x.order(2, false, 0), 0);
        Check.due("the sound one first: order(2, false, 1)", x.order(2, false, 1), 1);
        Check.due("the sound one first: order(1, true, 0)", x.order(1, true, 0), -1);
        Check.due("the sound one first: order(2, true, 0)", x.order(2, true, 0), -1);
        Check.due("the sound one first: order(3, true, 0)", x.order(3, true, 0), 0);
        x = Check.den(three + "hold 0 0 peg; hold 1 2 peg; hold 0 1 peg;");
        int[] due = {2, 0, 1};
        for (int j = 0; j < 3; j++) {
            Check.due("the sound one second: order(1, false, " + j + ")", x.order(1, false, j), due[j]);
        }
    }

    private static void heaps() {
        // When one is gone, the other draws 42, or 36, as the other chair keeps its cell.
        ChairDen x = Check.den("thing 0 10 99 99 9; thing 7 10 99 99 9; cloth 0 1 8 7 1; hold 0 0 peg; hold 0 1 peg;");
        Check.due("both gone: heap(0)", x.heap(0), 3);
        Check.due("both gone: heap(1)", x.heap(1), 0);
        Check.due("both gone: heap(3)", x.heap(3), 0);
        Check.due("fasten(1, 3, 0)", x.fasten(1, 3, 0), 1);
        Check.due("one tied: heap(2)", x.heap(2), 1);
        Check.due("one tied: heap(0)", x.heap(0), 2);
        Check.due("one tied: heap(3)", x.heap(3), 0);
        // Never mind that it is trapped: it alone gives.
        Check.due("fasten(0, 4, 0)", x.fasten(0, 4, 0), 1);
        Check.due("trapped: heap(2)", x.heap(2), 1);
        Check.due("trapped: heap(1)", x.heap(1), 2);
        // Only holds that hold are tried.
        Check.due("fasten(0, 1, 0)", x.fasten(0, 1, 0), 4);
        Check.due("rest(0, 20)", x.rest(0, 20), 1);
        Check.due("one is gone: count(3)", x.count(3), 1);
        Check.due("one is gone: heap(2)", x.heap(2), 0);
        Check.due("one is gone: heap(0)", x.heap(0), 2);
        Check.due("one is gone: count(5)", x.count(5), 1);
        Check.due("nothing: heap(0)", new ChairDen().heap(0), 0);
    }

    private static void changes() {
        ChairDen x = Check.den("thing 0 5 99 99 9; thing 7 5 99 99 9; cloth 0 1 8 2 1; hold 0 0 peg; hold 0 1 peg;");
        Check.due("hold(0, 5)", x.hold(0, 5), 6);
        Check.due("borne: change(0, 34)", x.change(0, 34), 0);
        Check.due("tied: change(0, 35)", x.change(0, 35), 1);
        Check.due("tied: change(0, 74)", x.change(0, 74), 1);
        Check.due("too much: change(0, 75)", x.change(0, 75), -1);
        Check.due("the other: change(1, 35)", x.change(1, 35), 2);
        Check.due("hold(0, 2)", x.hold(0, 2), 1);
        // Tied is less than trapped, and a book that is tied lies on its thing no more.
        Check.due("fasten(0, 4, 0)", x.fasten(0, 4, 0), 1);
        Check.due("trapped: change(0, 75)", x.change(0, 75), 0);
        x = Check.den("thing 0 1 10 5 9; cloth 0 1 1 1 1; hold 0 0 book 20;");
        Check.due("by its book: bears(0, 15)", x.bears(0, 15), 1);
        Check.due("by its book: change(0, 15)", x.change(0, 15), 0);
        Check.due("by its book: change(0, 16)", x.change(0, 16), -1);
        Check.due("fasten(0, 2, 7)", x.fasten(0, 2, 7), 2);
        Check.due("by a light book: change(0, 9)", x.change(0, 9), 0);
        Check.due("by a light book: change(0, 10)", x.change(0, 10), -1);
        // A tie weighs nothing.
        x = Check.den("thing 0 1 80 5 9; cloth 0 1 1 1 1; hold 0 0 peg;");
        Check.due("tied it slides: change(0, 41)", x.change(0, 41), -1);
        x = Check.den("thing 0 1 81 5 9; cloth 0 1 1 1 1; hold 0 0 peg;");
        Check.due("tied it stays: change(0, 41)", x.change(0, 41), 1);
        // What gave is not tied.
        x = Check.den("thing 0 1 99 99 9; cloth 0 1 1 1 1; cloth 0 1 1 1 1; hold 0 0 peg; hold 1 0 trapped;");
        Check.due("rest(0, 41)", x.rest(0, 41), 1);
        Check.due("gone: change(0, 60)", x.change(0, 60), 0);
        Check.due("gone: change(0, 999)", x.change(0, 999), -1);
    }

    private static void changesOfTwo() {
        ChairDen x = Check.den("thing 0 1 99 99 9; thing 1 1 99 99 9; cloth 0 1 2 1 1; cloth 0 1 1 1 1; cloth 0 1 1 1 1;"
            + "hold 0 1 peg; hold 0 0 peg; hold 1 0 peg;");
        Check.due("two: change(0, 41)", x.change(0, 41), 6);
        Check.due("one: change(1, 41)", x.change(1, 41), 1);
        Check.due("two: change(0, 80)", x.change(0, 80), 6);
        Check.due("two are too few: change(0, 81)", x.change(0, 81), -1);
        Check.feed(x, "thing 0 1 99 99 9; cloth 0 1 1 1 1; cloth 0 1 1 1 1; cloth 0 1 1 1 1; hold 0 0 peg; hold 1 0 peg; hold 2 0 peg;");
        Check.due("den()", x.den(), 3);
        Check.due("three: change(0, 41)", x.change(0, 41), -1);
        Check.due("three: change(0, 40)", x.change(0, 40), 0);
        Check.due("fasten(1, 3, 0)", x.fasten(1, 3, 0), 1);
        Check.due("first and last: change(0, 41)", x.change(0, 41), 5);
    }

    private static void fastening() {
        ChairDen x = Check.den(PAIR);
        int was = 1;
        for (int how = 0; how <= 4; how++) {
            Check.due("fasten(0, " + how + ", 50)", x.fasten(0, how, 50), was);
            Check.due("hold(0, 2)", x.hold(0, 2), how);
            Check.due("hold(0, 3)", x.hold(0, 3), how == 2 ? 50 : 0);
            was = how;
        }
        Check.due("fasten(0, 2, 1)", x.fasten(0, 2, 1), 4);
        Check.due("fasten(0, 2, 99)", x.fasten(0, 2, 99), 2);
        Check.due("hold(0, 3)", x.hold(0, 3), 99);
        Check.due("fasten(0, 2, 0)", x.fasten(0, 2, 0), ChairDen.OUTSIDE);
        Check.due("fasten(0, 2, 100)", x.fasten(0, 2, 100), ChairDen.OUTSIDE);
        Check.due("hold(0, 3)", x.hold(0, 3), 99);
        Check.due("fasten(0, 1, -7)", x.fasten(0, 1, -7), 2);
        Check.due("rest(0, 40)", x.rest(0, 40) > 0 ? 1 : 0, 1);
        Check.due("hold(0, 4)", x.hold(0, 4), 0);
        Check.due("fasten(0, 3, 0)", x.fasten(0, 3, 0), 1);
        Check.due("hold(0, 4)", x.hold(0, 4), 1);
        Check.due("hold(0, 6)", x.hold(0, 6) > 0 ? 1 : 0, 1);
        // Away from under its cloth: not any more; ahead of that what is unknown and outside.
        x = Check.den("thing 0 1 20 1 9; cloth 0 1 1 1 1; hold 0 0 trapped;");
        Check.due("rest(0, 3)", x.rest(0, 3), 1);
        Check.due("fasten(0, 1, 0)", x.fasten(0, 1, 0), ChairDen.NOT);
        Check.due("fasten(0, 5, 0)", x.fasten(0, 5, 0), ChairDen.OUTSIDE);
        Check.due("fasten(1, 5, 0)", x.fasten(1, 5, 0), ChairDen.UNKNOWN);
        Check.due("hold(0, 2)", x.hold(0, 2), 4);
    }

    private static void tower(String name, String den, int height, int... row) {
        ChairDen x = Check.den(den);
        Check.due(name + ": tower(-1)", x.tower(-1), height);
        for (int j = 0; j < row.length; j++) {
            Check.due(name + ": tower(" + j + ")", x.tower(j), row[j]);
        }
        Check.due(name + ": tower(" + row.length + ")", x.tower(row.length), -1);
    }

    /** Things of these heights and weights. */
    private static String things(int[] high, int[] weight) {
        StringBuilder den = new StringBuilder();
        for (int t = 0; t < high.length; t++) {
            den.append("thing ").append(t).append(' ').append(high[t]).append(' ').append(weight[t]).append(" 5 5;");
        }
        return den.toString();
    }

    private static void towers() {
        tower("nothing", "", 0);
        tower("one", "thing 5 7 1 1 1;", 7, 0);
        // The first cannot bear both others, but one of them; the heaviest need not be the lowest.
        tower("three", "thing 0 5 1 1 1; thing 1 3 10 1 1; thing 2 2 3 1 1;", 10, 1, 0, 2);
        tower("as much", "thing 0 5 1 1 1; thing 1 3 3 1 1;", 8, 0, 1);
        tower("more", "thing 0 5 1 1 1; thing 1 3 4 1 1;", 8, 1, 0);
        // Of five like weights one is too many: the lowest stays away.
        tower("five", "thing 0 3 9 1 1; thing 1 1 9 1 1; thing 2 5 9 1 1; thing 3 4 9 1 1; thing 4 2 9 1 1;",
            14, 0, 2, 3, 4);
        tower("like heights", "thing 0 3 9 1 1; thing 1 3 9 1 1; thing 2 3 9 1 1; thing 3 3 9 1 1; thing 4 3 9 1 1;",
            12, 0, 1, 2, 3);
        tower("all eight", "thing 0 1 1 1 1; thing 1 1 2 1 1; thing 2 1 4 1 1; thing 3 1 8 1 1; thing 4 1 16 1 1;"
            + "thing 5 1 32 1 1; thing 6 1 64 1 1; thing 7 20 99 1 1;", 27, 6, 7, 4, 5, 2, 3, 0, 1);
        // Of like heights the first row, though it has a later set of things, or fewer of them.
        tower("like rows", things(new int[] {1, 4, 4, 4, 2, 1, 2, 1}, new int[] {6, 5, 10, 1, 7, 5, 10, 14}),
            18, 7, 2, 4, 6, 1, 5, 3);
        tower("fewer things", things(new int[] {4, 3, 3, 3, 2, 2, 4, 1}, new int[] {5, 14, 22, 7, 18, 10, 14, 13}),
            19, 2, 1, 5, 3, 0, 6);
        tower("much fewer", things(new int[] {2, 4, 2, 4, 4, 4, 2, 3}, new int[] {4, 4, 4, 8, 8, 5, 8, 7}),
            19, 3, 4, 1, 5, 7);
        ChairDen x = Check.den("thing 5 7 1 1 1;");
        Check.due("tower(-2)", x.tower(-2), -1);
        Check.due("tower(MIN)", x.tower(Integer.MIN_VALUE), -1);
        Check.due("tower(MAX)", x.tower(Integer.MAX_VALUE), -1);
        // What lies is as high in a tower as it was.
        Check.due("rest(0, 9)", x.rest(0, 9) > 0 ? 1 : 0, 1);
        Check.due("lying: tower(-1)", x.tower(-1), 7);
    }

    private static void met(String want, int due) {
        ChairDen x = Check.den("thing 27 10 99 99 9; thing 0 10 99 99 9; cloth 18 3 3 1 1; cloth 0 1 1 1 1;"
            + "hold 0 0 trapped; hold 1 1 peg;");
        Check.feed(x, want);
        Check.due("want() of " + want, x.want(), 0);
        Check.due("met(0) of " + want, x.met(0), due);
    }

    /** A room of which one cell is just 5 high: that is high enough, if nothing else is told. */
    private static void fiveUntold() {
        ChairDen x = Check.den("thing 27 6 99 99 9; cloth 27 1 2 1 1; hold 0 0 peg;");
        Check.feed(x, "room 1");
        Check.due("5 high: want()", x.want(), 0);
        Check.due("5 high: met(0)", x.met(0), 1);
        x = Check.den("thing 27 5 99 99 9; cloth 27 1 2 1 1; hold 0 0 peg;");
        Check.feed(x, "room 1");
        Check.due("4 high: want()", x.want(), 0);
        Check.due("4 high: met(0)", x.met(0), 0);
    }

    private static void wants() {
        met("room 0", 1);
        met("room 8", 1);
        met("room 9", 0);
        met("room 8 high 8", 1);
        met("room 2 high 9", 0);
        met("room 1 high 9 door stands", 1);
        met("room 0 high 10", 1);
        met("room 0 high 10 dark 0", 1);
        met("room 0 high 10 door", 0);
        met("room 8 dark 50", 1);
        met("room 8 dark 49", 0);
        met("room 8 door", 1);
        met("room 8 stands", 1);
        fiveUntold();
        // A room without a door, a den that falls, and wants that stay from den to den.
        ChairDen x = Check.den("thing 27 20 99 99 9; cloth 0 8 8 1 1; hold 0 0 trapped;");
        for (String want : new String[] {"room 60 door", "room 60 high 6", "room 0 stands", "room 60"}) {
            Check.feed(x, want);
            x.want();
        }
        Check.due("no door: met(0)", x.met(0), 0);
        Check.due("no door: met(1)", x.met(1), 1);
        Check.due("no door: met(2)", x.met(2), 1);
        Check.due("no door: met(4)", x.met(4), ChairDen.UNKNOWN);
        Check.due("no door: met(-1)", x.met(-1), ChairDen.UNKNOWN);
        Check.feed(x, "thing 0 20 1 99 1; cloth 0 1 8 1 1; hold 0 0 trapped;");
        Check.due("den()", x.den(), 1);
        Check.due("falling: met(1)", x.met(1), 0);
        Check.due("falling: met(2)", x.met(2), 0);
        Check.due("falling: count(5)", x.count(5), 0);
        Check.due("rest(-1, 0)", x.rest(-1, 0), 1);
        Check.due("fallen: met(2)", x.met(2), 1);
        Check.due("no wants: met(0)", new ChairDen().met(0), ChairDen.UNKNOWN);
    }

    private static void limitsOfSeven() {
        StringBuilder den = new StringBuilder("cloth 0 8 8 1 9;");
        for (int t = 0; t < 8; t++) {
            den.append("thing ").append(9 * t).append(" 1 99 99 9;");
        }
        for (int t = 0; t < 7; t++) {
            den.append("hold 0 ").append(t).append(" peg;");
        }
        ChairDen x = Check.den(den.toString());
        Check.due("seven: most(5, 1, 1, -1)", x.most(5, 1, 1, -1), 0);
        Check.due("seven: most(5, 1, 1, 6)", x.most(5, 1, 1, 6), 0);
        Check.due("seven: fewest()", x.fewest(), 0);
        Check.due("seven: order(0, false, -1)", x.order(0, false, -1), 1);
        Check.due("seven: order(0, true, 6)", x.order(0, true, 6), 6);
        x = Check.den(den + "hold 0 7 peg;");
        Check.due("eight: most(5, 1, 1, -1)", x.most(5, 1, 1, -1), ChairDen.NOT);
        Check.due("eight: fewest()", x.fewest(), ChairDen.NOT);
        Check.due("eight: order(0, false, -1)", x.order(0, false, -1), ChairDen.NOT);
        Check.due("eight: order(5, false, -1)", x.order(5, false, -1), ChairDen.OUTSIDE);
        Check.due("eight: most(21, 1, 1, -1)", x.most(21, 1, 1, -1), ChairDen.OUTSIDE);
        Check.due("eight: most(21, 1, 1, 8)", x.most(21, 1, 1, 8), ChairDen.UNKNOWN);
        // For an order only those that hold are counted; for rows all.
        Check.due("rest(7, 41)", x.rest(7, 41), 1);
        Check.due("seven of eight: order(0, false, 6)", x.order(0, false, 6), 6);
        Check.due("seven of eight: fewest()", x.fewest(), ChairDen.NOT);
        Check.due("seven of eight: heap(126)", x.heap(126), 1);
        Check.due("seven of eight: heap(127)", x.heap(127), 0);
    }

    private static void refusals() {
        ChairDen x = Check.den(PAIR);
        for (int bad : new int[] {-2, 2, Integer.MIN_VALUE, Integer.MAX_VALUE}) {
            Check.due("most(0, -1, -1, " + bad + ")", x.most(0, -1, -1, bad), ChairDen.UNKNOWN);
            Check.due("change(" + bad + ", -1)", x.change(bad, -1), ChairDen.UNKNOWN);
            Check.due("fasten(" + bad + ", 9, 0)", x.fasten(bad, 9, 0), ChairDen.UNKNOWN);
            Check.due("met(" + bad + ")", x.met(bad), ChairDen.UNKNOWN);
        }
        Check.due("change(-1, 0)", x.change(-1, 0), ChairDen.UNKNOWN);
        Check.due("fasten(-1, 0, 0)", x.fasten(-1, 0, 0), ChairDen.UNKNOWN);
        for (int bad : new int[] {-1, 13, Integer.MIN_VALUE, Integer.MAX_VALUE}) {
            Check.due("most(5, " + bad + ", 0, 0)", x.most(5, bad, 0, 0), ChairDen.OUTSIDE);
            Check.due("most(5, 0, " + bad + ", -1)", x.most(5, 0, bad, -1), ChairDen.OUTSIDE);
            Check.due("order(" + bad + ", true, 0)", x.order(bad, true, 0), ChairDen.OUTSIDE);
            Check.due("fasten(0, " + bad + ", 1)", x.fasten(0, bad, 1), ChairDen.OUTSIDE);
            Check.due("heap(" + bad + ")", x.heap(bad), ChairDen.UNKNOWN);
        }
        for (int bad : new int[] {0, 21, -1, Integer.MIN_VALUE, Integer.MAX_VALUE}) {
            Check.due("most(" + bad + ", 0, 0, -1)", x.most(bad, 0, 0, -1), ChairDen.OUTSIDE);
        }
        for (int bad : new int[] {-1, 1000, Integer.MIN_VALUE, Integer.MAX_VALUE}) {
            Check.due("change(0, " + bad + ")", x.change(0, bad), ChairDen.OUTSIDE);
        }
        Check.due("order(5, true, 0)", x.order(5, true, 0), ChairDen.OUTSIDE);
        Check.due("heap(4)", x.heap(4), ChairDen.UNKNOWN);
        Check.due("heap(7)", x.heap(7), ChairDen.UNKNOWN);
        Check.due("new: heap(1)", new ChairDen().heap(1), ChairDen.UNKNOWN);
        Check.due("order(0, true, MIN)", x.order(1, false, Integer.MIN_VALUE), -1);
        Check.due("order(0, true, MAX)", x.order(1, false, Integer.MAX_VALUE), -1);
    }
}
