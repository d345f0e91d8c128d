/** Every boundary case of what could be: promises 22 to 29, and 'Terms' 4. */
public final class EdgeCouldTest {
    private static final int LOW = Edge.LOW, HIGH = Edge.HIGH;
    private static final int UNKNOWN = ChairDen.UNKNOWN, OUTSIDE = ChairDen.OUTSIDE, NOT = ChairDen.NOT, NONE = ChairDen.NONE;

    private EdgeCouldTest() {
    }

    public static void main(String[] args) {
        mostBounds();
        mostSeven();
        mostPegsAndBooks();
        mostFirstRow();
        mostHeldAgain();
        mostForty();
        fewestEdges();
        fewestSeven();
        orderBounds();
        orderSeven();
        orderPlaces();
        orderFirst();
        orderHands();
        orderOfNothing();
        heapBounds();
        heapEdges();
        changeBounds();
        changeEdges();
        changeOfTwo();
        fastenBounds();
        fastenAgain();
        towerPlaces();
        towerThreeTimes();
        towerFirstRow();
        metBounds();
        metEdges();
        metWithoutARoom();
        Edge.end();
    }

    /**
     * Things one below the other at the left, each with a hold on one cloth two places wide: each
     * draws by 5, with a load of 10. Laid it bears 4 alone, a peg all that may come.
     */
    private static String column(int many, String how) {
        StringBuilder s = new StringBuilder("cloth 0 8 2 5 1;");
        for (int t = 0; t < many; t++) {
            s.append("thing ").append(8 * t).append(" 10 99 4 9;hold 0 ").append(t).append(' ').append(how).append(';');
        }
        return s.toString();
    }

    /** Like column(), of seven rows of cloth alone, so that each row has its thing. */
    private static ChairDen seven(String how) {
        return Check.den(column(7, how).replace("cloth 0 8 2", "cloth 0 7 2"));
    }

    private static ChairDen eight(String how) {
        return Check.den(column(8, how));
    }

    private static void mostBounds() {
        Edge.of("Promise 22", "with p (0 .. 12) pegs, q (0 .. 12) books: k = NONE how many CELLS, else HOLD k. UNKNOWN, OUTSIDE, NOT.");
        Edge.refused(Edge::richWithText, "most(5, 1, 1, #)", UNKNOWN, (x, n) -> x.most(5, 1, 1, n), -2, 4, 12, LOW, HIGH);
        Edge.refused(Edge::richWithText, "most(0, -1, 13, #)", UNKNOWN, (x, n) -> x.most(0, -1, 13, n), -2, 4);
        Edge.refused(Edge::richWithText, "most(#, 1, 1, 0)", OUTSIDE, (x, n) -> x.most(n, 1, 1, 0), -1, 0, 21, LOW, HIGH);
        Edge.refused(Edge::richWithText, "most(5, #, 1, 0)", OUTSIDE, (x, n) -> x.most(5, n, 1, 0), -1, 13, LOW, HIGH);
        Edge.refused(Edge::richWithText, "most(5, 1, #, -1)", OUTSIDE, (x, n) -> x.most(5, 1, n, NONE), -1, 13, LOW, HIGH);
        Edge.refused(() -> eight("peg"), "most(5, 1, 1, #) of eight", NOT, (x, n) -> x.most(5, 1, 1, n), -1, 0, 7);
        Edge.refused(() -> eight("peg"), "most(5, 1, 1, #) of eight", UNKNOWN, (x, n) -> x.most(5, 1, 1, n), -2, 8);
        Edge.refused(() -> eight("peg"), "most(#, 1, 1, 0) of eight", OUTSIDE, (x, n) -> x.most(n, 1, 1, 0), 0, 21);
        Edge.refused(() -> eight("peg"), "most(1, #, 1, 0) of eight", OUTSIDE, (x, n) -> x.most(1, n, 1, 0), -1, 13);
        Edge.refused(() -> eight("peg"), "most(1, 1, #, 0) of eight", OUTSIDE, (x, n) -> x.most(1, 1, n, 0), -1, 13);
        Edge.still(Edge::richWithText, "most(1, 0, 0, -1)", 27, x -> x.most(1, 0, 0, NONE));
        Edge.still(Edge::richWithText, "most(20, 12, 12, -1)", 0, x -> x.most(20, 12, 12, NONE));
        Edge.still(Edge::richWithText, "most(20, 12, 12, 3)", 0, x -> x.most(20, 12, 12, 3));
        Edge.still(ChairDen::new, "of nothing: most(1, 12, 12, -1)", 0, x -> x.most(1, 12, 12, NONE));
        Edge.refused(ChairDen::new, "of nothing: most(1, 0, 0, #)", UNKNOWN, (x, n) -> x.most(1, 0, 0, n), -2, 0);
    }

    private static void row(ChairDen x, int h, int p, int q, int cells, int... due) {
        String name = "most(" + h + ", " + p + ", " + q + ", ";
        Edge.due(name + "-1)", x.most(h, p, q, NONE), cells);
        for (int k = 0; k < due.length; k++) {
            Edge.due(name + k + ")", x.most(h, p, q, k), due[k]);
        }
    }

    private static void mostSeven() {
        Edge.of("Terms 4", "(7 HOLDS at most, else NOT.)");
        Edge.due("seven: most(9, 12, 0, -1)", seven("tied").most(9, 12, 0, NONE), 7);
        Edge.due("eight: most(9, 12, 0, -1)", eight("tied").most(9, 12, 0, NONE), NOT);
        // All that the text told count, whether they hold or not.
        ChairDen x = eight("peg");
        Edge.due("eight, one gave: rest(0, 41)", x.rest(0, 41), 1);
        Edge.due("eight, one gave: count(3)", x.count(3), 7);
        Edge.due("eight, one gave: most(9, 12, 0, -1)", x.most(9, 12, 0, NONE), NOT);
        Edge.due("eight, one gave: fewest()", x.fewest(), NOT);
    }

    private static void mostPegsAndBooks() {
        Edge.of("Terms 4", "THE MOST ROOM: by any row with so many pegs, books at most");
        ChairDen x = seven("laid");
        row(x, 9, 0, 0, 0, 0, 0, 0, 0, 0, 0, 0);
        row(x, 9, 1, 0, 1, 0, 0, 0, 0, 0, 0, 1);
        row(x, 9, 0, 1, 1, 0, 0, 0, 0, 0, 0, 2);
        row(x, 9, 6, 0, 6, 0, 1, 1, 1, 1, 1, 1);
        row(x, 9, 7, 0, 7, 1, 1, 1, 1, 1, 1, 1);
        row(x, 9, 8, 0, 7, 1, 1, 1, 1, 1, 1, 1);
        row(x, 9, 12, 12, 7, 1, 1, 1, 1, 1, 1, 1);
        row(x, 9, 0, 7, 7, 2, 2, 2, 2, 2, 2, 2);
        row(x, 9, 0, 6, 6, 0, 2, 2, 2, 2, 2, 2);
        row(x, 9, 6, 1, 7, 1, 1, 1, 1, 1, 1, 2);
        row(x, 9, 1, 6, 7, 1, 2, 2, 2, 2, 2, 2);
        row(x, 9, 5, 1, 6, 0, 1, 1, 1, 1, 1, 2);
        row(x, 10, 12, 12, 0, 0, 0, 0, 0, 0, 0, 0);
    }

    private static void mostFirstRow() {
        Edge.of("Terms 4", "of like ones the first row (HOLD by HOLD)");
        // Rough enough to be laid: no peg, no book is better.
        ChairDen x = Check.den("thing 0 9 99 99 9; thing 2 9 99 99 9; cloth 0 1 3 1 1; hold 0 0 tied; hold 0 1 trapped;");
        row(x, 8, 12, 12, 1, 0, 0);
        // Either of two that need a peg: the later one by the first row, unless the former has more room.
        String two = "thing 0 9 99 4 9; thing 56 9 99 4 9; cloth 0 1 # 1 1; cloth 56 1 4 1 1; hold 0 0 laid; hold 1 1 laid;";
        row(Check.den(two.replace("#", "4")), 6, 1, 0, 3, 0, 1);
        row(Check.den(two.replace("#", "5")), 5, 1, 0, 4, 1, 0);
        row(Check.den(two.replace("#", "5")), 6, 1, 0, 3, 0, 1);
        row(Check.den(two.replace("#", "4")), 6, 1, 1, 3, 0, 1);
        row(Check.den(two.replace("#", "4")), 6, 0, 1, 3, 0, 2);
    }

    private static void mostHeldAgain() {
        Edge.of("Terms 4", "(HOLDS that gave held again, if their THINGS still lie under their CLOTHS)");
        ChairDen x = seven("peg");
        Edge.due("rest(0, 36)", x.rest(0, 36), 1);
        Edge.due("count(3)", x.count(3), 6);
        row(x, 9, 7, 0, 7, 1, 1, 1, 1, 1, 1, 1);
        Edge.due("fewest()", x.fewest(), 7);
        Edge.due("count(3), only tried", x.count(3), 6);
        // A thing that slid away from one of its cloths: that one is not held by any row.
        x = Check.den("thing 27 9 99 1 9; cloth 27 1 2 1 1; cloth 35 1 2 1 1; cloth 27 2 1 1 1; hold 0 0 peg; hold 2 0 trapped;");
        Edge.due("rest(0, 11)", x.rest(0, 11), 1);
        Edge.due("thing(0, 0)", x.thing(0, 0), 35);
        Edge.due("hold(0, 4)", x.hold(0, 4), 0);
        row(x, 8, 12, 12, 1, 0, 1);
        row(x, 8, 0, 1, 1, 0, 2);
        row(x, 8, 0, 0, 0, 0, 0);
        Edge.due("fewest()", x.fewest(), 1);
        // As it is now, and as it is again by an image of it.
        x = Check.den("thing 0 9 99 1 9; cloth 0 3 1 1 1; hold 0 0 trapped;");
        x.keep(1);
        row(x, 7, 1, 1, 2, 1);
        Edge.due("rest(0, 9)", x.rest(0, 9), 1);
        Edge.due("thing(0, 0)", x.thing(0, 0), 8);
        row(x, 7, 1, 1, 1, 0);
        x.goBack(1);
        row(x, 7, 1, 1, 2, 1);
        // Where it lies now, its TOP is 1: no row gives room.
        x = Check.den("thing 0 9 20 99 1; cloth 0 1 2 1 1; hold 0 0 peg;");
        row(x, 8, 1, 0, 1, 0);
        Edge.due("rest(0, 3)", x.rest(0, 3), 1);
        Edge.due("thing(0, 5)", x.thing(0, 5), 1);
        row(x, 8, 1, 0, 0, 0);
    }

    /** A hold that draws by 41, or by 40 if two cells lie on other things; laid it bears 38 at most. */
    private static ChairDen drawnBy(int draw) {
        return Check.den("thing 0 20 99 8 9; thing 9 20 9 9 9; " + (draw == 40 ? "thing 10 20 9 9 9; " : "")
            + "cloth 0 7 7 1 1; hold 0 0 tied;");
    }

    private static void mostForty() {
        Edge.of("Terms 4", "TRIED HOLDS: laid, a peg, a book (of N 20), by a row of 0, 1, 2");
        Edge.due("hold(0, 5)", drawnBy(40).hold(0, 5), 40);
        row(drawnBy(40), 1, 0, 0, 0, 0);
        row(drawnBy(40), 1, 1, 0, 46, 1);
        row(drawnBy(40), 1, 0, 1, 46, 2);
        row(drawnBy(40), 1, 1, 1, 46, 1);
        Edge.due("hold(0, 5)", drawnBy(41).hold(0, 5), 41);
        row(drawnBy(41), 1, 0, 0, 0, 0);
        row(drawnBy(41), 1, 12, 12, 0, 0);
        // The book weighs 20 on its thing: (6, 14 and 20) times 1 / 10 hold it where it is drawn by 4.
        String den = "cloth 0 1 7 2 1; thing 2 5 # 1 9; hold 0 0 tied;";
        row(Check.den(den.replace("#", "6")), 1, 0, 1, 4, 2);
        row(Check.den(den.replace("#", "5")), 1, 0, 1, 3, 2);
    }

    private static void fewestEdges() {
        Edge.of("Promise 23", "THE FEWEST PEGS; NONE. NOT.");
        Edge.still(Edge::richWithText, "fewest()", 0, ChairDen::fewest);
        Edge.still(ChairDen::new, "of nothing: fewest()", 0, ChairDen::fewest);
        Edge.still(() -> drawnBy(40), "a peg bears 40: fewest()", 1, ChairDen::fewest);
        Edge.still(() -> drawnBy(41), "a peg does not bear 41: fewest()", NONE, ChairDen::fewest);
        Edge.still(() -> eight("peg"), "eight: fewest()", NOT, ChairDen::fewest);
        Edge.of("Terms 4", "with no books");
        ChairDen x = Check.den("cloth 0 1 7 2 1; thing 2 5 6 1 9; hold 0 0 book 20;");
        Edge.due("by its book: stands()", x.stands(), 1);
        Edge.due("by its book: fewest()", x.fewest(), NONE);
    }

    private static void fewestSeven() {
        Edge.of("Terms 4", "THE FEWEST PEGS: the least p by which some row STANDS");
        for (int rough = 0; rough <= 7; rough++) {
            // So many of the seven are rough enough to be laid.
            StringBuilder den = new StringBuilder("cloth 0 7 2 5 1;");
            for (int t = 0; t < 7; t++) {
                den.append("thing ").append(8 * t).append(" 10 99 ").append(t < rough ? 5 : 4).append(" 9;hold 0 ").append(t)
                    .append(" laid;");
            }
            Edge.due(rough + " are rough: fewest()", Check.den(den.toString()).fewest(), 7 - rough);
        }
    }

    private static void orderBounds() {
        Edge.of("Promise 24", "with k hands (0 .. 4) .. OUTSIDE, NOT: more than 7 HOLDS hold");
        Edge.refused(Edge::richWithText, "order(#, false, 0)", OUTSIDE, (x, n) -> x.order(n, false, 0), -1, 5, LOW, HIGH);
        Edge.refused(Edge::richWithText, "order(#, true, -1)", OUTSIDE, (x, n) -> x.order(n, true, NONE), -1, 5, LOW, HIGH);
        Edge.refused(() -> eight("peg"), "order(#, false, -1) of eight", OUTSIDE, (x, n) -> x.order(n, false, NONE), -1, 5);
        Edge.refused(() -> eight("peg"), "order(#, false, -1) of eight", NOT, (x, n) -> x.order(n, false, NONE), 0, 4);
        Edge.refused(() -> eight("peg"), "order(0, true, #) of eight", NOT, (x, n) -> x.order(0, true, n), -2, -1, 0, 7, 8);
        Edge.still(Edge::richWithText, "order(0, false, -1)", 1, x -> x.order(0, false, NONE));
        Edge.still(Edge::richWithText, "order(4, true, -1)", 1, x -> x.order(4, true, NONE));
    }

    private static void orderSeven() {
        Edge.of("Promise 24", "NOT: more than 7 HOLDS hold (those that the text told do not count)");
        Edge.due("seven: order(4, false, 6)", seven("peg").order(4, false, 6), 6);
        ChairDen x = eight("peg");
        Edge.due("eight: order(4, false, -1)", x.order(4, false, NONE), NOT);
        Edge.due("rest(7, 36)", x.rest(7, 36), 1);
        Edge.due("seven of eight: count(3)", x.count(3), 7);
        Edge.due("seven of eight: order(0, false, -1)", x.order(0, false, NONE), 1);
        Edge.due("seven of eight: order(0, false, 6)", x.order(0, false, 6), 6);
        Edge.due("seven of eight: order(0, true, 7)", x.order(0, true, 7), NONE);
        Edge.due("fasten(7, 1, 0)", x.fasten(7, 1, 0), 1);
        Edge.due("eight again: order(0, false, -1)", x.order(0, false, NONE), NOT);
    }

    private static void orderPlaces() {
        Edge.of("Promise 24", "j = NONE whether there is one (1; NONE), else HOLD j of it; NONE");
        int[] beyond = {-2, 7, 8, LOW, HIGH};
        for (boolean down : new boolean[] {false, true}) {
            ChairDen x = seven("peg");
            Edge.due("order(0, " + down + ", -1)", x.order(0, down, NONE), 1);
            for (int j = 0; j < 7; j++) {
                Edge.due("order(0, " + down + ", " + j + ")", x.order(0, down, j), j);
            }
            for (int j : beyond) {
                Edge.due("order(0, " + down + ", " + j + ")", x.order(0, down, j), NONE);
            }
            // Where there is none, of no place is one told.
            x = Check.den("thing 0 10 99 99 9; cloth 0 1 8 6 1; hold 0 0 peg;");
            for (int j = -2; j <= 1; j++) {
                int due = down && j == NONE ? 1 : down && j == 0 ? 0 : NONE;
                Edge.due("of one that gives: order(0, " + down + ", " + j + ")", x.order(0, down, j), due);
            }
        }
    }

    private static void orderFirst() {
        Edge.of("Terms 4", "the first such ORDER (HOLD by HOLD the lesser ahead)");
        // The second chair alone bears it all.
        String pair = "thing 0 10 12 99 6; thing 7 10 99 99 9; cloth 0 1 8 2 1; hold 0 0 peg; hold 0 1 peg;";
        ChairDen x = Check.den(pair);
        Edge.due("order(0, false, 0)", x.order(0, false, 0), 1);
        Edge.due("order(0, false, 1)", x.order(0, false, 1), 0);
        Edge.due("order(0, true, 0)", x.order(0, true, 0), 0);
        Edge.due("order(0, true, 1)", x.order(0, true, 1), 1);
        x = Check.den(pair.replace("12 99 6", "99 99 9"));
        Edge.due("both bear it: order(0, false, 0)", x.order(0, false, 0), 0);
        Edge.due("both bear it: order(0, true, 0)", x.order(0, true, 0), 0);
        x = Check.den(pair.replace("99 99 9", "12 99 6"));
        Edge.due("neither bears it: stands()", x.stands(), 1);
        Edge.due("neither bears it: order(0, false, -1)", x.order(0, false, NONE), NONE);
        Edge.due("neither bears it: order(0, true, -1)", x.order(0, true, NONE), NONE);
        // Only those that hold are put up, by their own numbers.
        x = Check.den(pair.replace("12 99 6", "99 99 9"));
        Edge.due("rest(0, 41)", x.rest(0, 41), 1);
        Edge.due("one gave: order(0, false, 0)", x.order(0, false, 0), 1);
        Edge.due("one gave: order(0, false, 1)", x.order(0, false, 1), NONE);
    }

    /** Five rows of cloth, a thing in front of each: without its hold a row draws at another one, by 70 then. */
    private static ChairDen five(int base) {
        StringBuilder s = new StringBuilder("cloth 0 5 8 5 1;");
        for (int t = 0; t < 5; t++) {
            s.append("thing ").append(8 * t).append(" 10 99 99 ").append(base).append(";hold 0 ").append(t).append(" peg;");
        }
        return Check.den(s.toString());
    }

    private static void orderHands() {
        Edge.of("Terms 4", "of the others the first k (by numbers) in hands (never GIVING)");
        // 70 times 10 are more than 99 times 7: whatever hold is not there, something tips.
        Edge.due("stands()", five(7).stands(), 1);
        for (int k = 0; k <= 3; k++) {
            Edge.due("order(" + k + ", false, -1)", five(7).order(k, false, NONE), NONE);
        }
        Edge.due("order(4, false, -1)", five(7).order(4, false, NONE), 1);
        Edge.due("order(4, false, 0)", five(7).order(4, false, 0), 0);
        Edge.due("order(4, false, 4)", five(7).order(4, false, 4), 4);
        Edge.due("order(4, true, -1)", five(7).order(4, true, NONE), NONE);
        // 70 times 10 are less than 99 times 8: with three, the last of the others hangs on the third, which is in hands.
        Edge.due("broader: order(3, false, -1)", five(8).order(3, false, NONE), 1);
        Edge.due("broader: order(3, false, 0)", five(8).order(3, false, 0), 0);
        Edge.due("broader: order(2, false, -1)", five(8).order(2, false, NONE), NONE);
        Edge.due("broader: order(4, true, -1)", five(8).order(4, true, NONE), 1);
        Edge.due("broader: order(3, true, -1)", five(8).order(3, true, NONE), NONE);
        // More hands than there are others.
        ChairDen x = Check.den("thing 0 10 99 99 9; cloth 0 1 8 5 1; hold 0 0 peg;");
        Edge.due("one hold: order(4, false, 0)", x.order(4, false, 0), 0);
        Edge.due("one hold: order(4, true, 0)", x.order(4, true, 0), 0);
    }

    private static void orderOfNothing() {
        Edge.of("Terms 4", "AN ORDER of no HOLDS that hold");
        for (int k = 0; k <= 4; k++) {
            Edge.due("order(" + k + ", false, -1)", new ChairDen().order(k, false, NONE), 1);
            Edge.due("order(" + k + ", true, -1)", new ChairDen().order(k, true, NONE), 1);
            Edge.due("order(" + k + ", false, 0)", new ChairDen().order(k, false, 0), NONE);
        }
        ChairDen x = Check.den("thing 0 10 99 99 9; cloth 0 1 8 6 1; hold 0 0 peg;");
        x.rest(NONE, 0);
        Edge.due("all gave: order(0, false, -1)", x.order(0, false, NONE), 1);
        Edge.due("all gave: order(0, false, 0)", x.order(0, false, 0), NONE);
    }

    private static void heapBounds() {
        Edge.of("Promise 25", "A HEAP. UNKNOWN (bits of HOLDS that there are not)");
        Edge.refused(Edge::richWithText, "heap(#)", UNKNOWN, ChairDen::heap, 16, 17, 31, 4096, -1, LOW, HIGH);
        Edge.refused(ChairDen::new, "of nothing: heap(#)", UNKNOWN, ChairDen::heap, 1, -1, LOW, HIGH);
        Edge.still(ChairDen::new, "of nothing: heap(0)", 0, x -> x.heap(0));
        Edge.still(Edge::richWithText, "heap(15)", 0, x -> x.heap(15));
        StringBuilder twelve = new StringBuilder();
        for (int t = 0; t < 4; t++) {
            twelve.append("thing ").append(t).append(" 1 99 99 9;");
        }
        twelve.append("cloth 0 1 8 1 9;cloth 0 1 8 1 9;cloth 0 1 8 1 9;");
        for (int k = 0; k < 12; k++) {
            twelve.append("hold ").append(k / 4).append(' ').append(k % 4).append(" peg;");
        }
        Edge.refused(() -> Check.den(twelve.toString()), "of twelve: heap(#)", UNKNOWN, ChairDen::heap, 4096, 8191, -1);
        ChairDen x = Check.den(twelve.toString());
        Edge.due("of twelve: heap(4095)", x.heap(4095), 0);
        for (int k = 0; k < 12; k++) {
            Edge.due("of twelve: all but " + k, x.heap(4095 & ~(1 << k)), 1 << k);
        }
    }

    private static void heapEdges() {
        Edge.of("Terms 4", "A HEAP: it alone GIVES, whatever its DRAW; HOLDS that hold alone are tried");
        ChairDen x = Check.den("thing 0 10 99 99 9; thing 7 10 99 99 9; cloth 0 1 8 7 1; hold 0 0 trapped; hold 0 1 peg;");
        // Without the trapped one the peg draws by 42; without the peg the other stays.
        Edge.due("heap(0)", x.heap(0), 1);
        Edge.due("heap(1)", x.heap(1), 2);
        Edge.due("heap(2)", x.heap(2), 0);
        Edge.due("heap(3), as it is", x.heap(3), 0);
        Edge.due("rest(1, 30)", x.rest(1, 30), 1);
        Edge.due("one gave: count(3)", x.count(3), 1);
        Edge.due("one gave: heap(0)", x.heap(0), 1);
        Edge.due("one gave: heap(1)", x.heap(1), 0);
        // Several, each of which may have been it.
        x = Check.den("thing 0 10 99 99 9; thing 7 10 99 99 9; cloth 0 1 8 7 1; hold 0 0 peg; hold 0 1 peg;");
        Edge.due("either: heap(0)", x.heap(0), 3);
        Edge.due("either: heap(1)", x.heap(1), 0);
        // Of what does not stand all that gives goes, too.
        x = Check.den("thing 0 10 99 99 9; thing 63 1 99 99 9; cloth 0 1 8 6 1; cloth 63 1 1 1 1; hold 0 0 peg; hold 1 1 peg;");
        Edge.due("another gives: heap(2)", x.heap(2), 1);
        Edge.due("another gives: heap(0)", x.heap(0), 2);
        Edge.due("another gives: heap(1)", x.heap(1), 0);
    }

    /** A thing with so many cloths of its own cell alone, all by pegs. */
    private static ChairDen pegged(int many) {
        StringBuilder s = new StringBuilder("thing 0 1 99 99 9;");
        for (int k = 0; k < many; k++) {
            s.append("cloth 0 1 1 1 1;hold ").append(k).append(" 0 peg;");
        }
        return Check.den(s.toString());
    }

    private static void changeBounds() {
        Edge.of("Promise 26", "THE LEAST CHANGE: the SET of HOLDS; NONE. UNKNOWN, OUTSIDE. (b 0 .. 999)");
        Edge.refused(Edge::richWithText, "change(#, 5)", UNKNOWN, (x, n) -> x.change(n, 5), -1, 4, 8, LOW, HIGH);
        Edge.refused(Edge::richWithText, "change(#, 1000)", UNKNOWN, (x, n) -> x.change(n, 1000), -1, 4);
        Edge.refused(Edge::richWithText, "change(0, #)", OUTSIDE, (x, n) -> x.change(0, n), -1, 1000, LOW, HIGH);
        Edge.refused(ChairDen::new, "of nothing: change(#, 0)", UNKNOWN, (x, n) -> x.change(n, 0), -1, 0);
        Edge.still(Edge::richWithText, "change(0, 0)", 0, x -> x.change(0, 0));
        Edge.still(Edge::richWithText, "change(0, 999)", NONE, x -> x.change(0, 999));
        Edge.still(Edge::richWithText, "change(3, 999)", 0, x -> x.change(3, 999));
    }

    private static void changeEdges() {
        Edge.of("Terms 4", "THE LEAST CHANGE: no HOLD, one, or two that hold become tied; NONE: two are too few");
        Edge.due("no holds: change(0, 891)", pegged(0).change(0, 891), 0);
        Edge.due("no holds: change(0, 892)", pegged(0).change(0, 892), NONE);
        Edge.due("one: change(0, 40)", pegged(1).change(0, 40), 0);
        Edge.due("one: change(0, 41)", pegged(1).change(0, 41), 1);
        Edge.due("one: change(0, 80)", pegged(1).change(0, 80), 1);
        Edge.due("one: change(0, 81)", pegged(1).change(0, 81), NONE);
        Edge.due("two: change(0, 40)", pegged(2).change(0, 40), 0);
        Edge.due("two: change(0, 41)", pegged(2).change(0, 41), 3);
        Edge.due("two: change(0, 80)", pegged(2).change(0, 80), 3);
        Edge.due("two: change(0, 81)", pegged(2).change(0, 81), NONE);
        Edge.due("three: change(0, 40)", pegged(3).change(0, 40), 0);
        Edge.due("three: change(0, 41)", pegged(3).change(0, 41), NONE);
        // What gave cannot become tied, and need not.
        ChairDen x = pegged(3);
        Edge.due("rest(0, 41)", x.rest(0, 41), 1);
        Edge.due("three, one gave: change(0, 41)", x.change(0, 41), 6);
    }

    private static void changeOfTwo() {
        Edge.of("Terms 4", "THE LEAST CHANGE: the SET of the fewest, of like ones the least");
        ChairDen x = pegged(3);
        x.fasten(0, 3, 0);
        Edge.due("the first is tied: change(0, 41)", x.change(0, 41), 6);
        x.fasten(1, 3, 0);
        Edge.due("two are tied: change(0, 41)", x.change(0, 41), 4);
        x.fasten(0, 4, 0);
        x.fasten(1, 4, 0);
        x.fasten(2, 2, 30);
        Edge.due("a book of 30: change(0, 60)", x.change(0, 60), 0);
        Edge.due("a book of 30: change(0, 61)", x.change(0, 61), 4);
        Edge.due("a book of 30: change(0, 81)", x.change(0, 81), NONE);
        // A book that is tied weighs on its thing no more: so it slides.
        x = Check.den("thing 0 1 30 10 9; cloth 0 1 1 1 1; cloth 0 1 1 1 1; hold 0 0 book 25; hold 1 0 trapped;");
        Edge.due("its book presses: change(0, 50)", x.change(0, 50), 0);
        Edge.due("its book gives: change(0, 51)", x.change(0, 51), NONE);
        // A trapped one bears more than it would tied.
        x = Check.den("thing 0 1 99 99 9; cloth 0 1 1 1 1; cloth 0 1 1 1 1; hold 0 0 trapped; hold 1 0 laid;");
        Edge.due("the second alone: change(0, 50)", x.change(0, 50), 2);
    }

    private static ChairDen slidAway() {
        ChairDen x = Check.den("thing 0 1 20 1 9; cloth 0 1 1 1 1; cloth 0 2 1 1 9; hold 0 0 trapped; hold 1 0 peg;");
        x.rest(0, 3);
        return x;
    }

    private static void fastenBounds() {
        Edge.of("Promise 27", "(how 0 .. 4; N of a book 1 .. 99, else not looked at). UNKNOWN, OUTSIDE, NOT: not under its CLOTH any more");
        Edge.refused(Edge::richWithText, "fasten(#, 1, 0)", UNKNOWN, (x, n) -> x.fasten(n, 1, 0), -1, 4, 12, LOW, HIGH);
        Edge.refused(Edge::richWithText, "fasten(#, 5, 0)", UNKNOWN, (x, n) -> x.fasten(n, 5, 0), -1, 4);
        Edge.refused(Edge::richWithText, "fasten(1, #, 5)", OUTSIDE, (x, n) -> x.fasten(1, n, 5), -1, 5, LOW, HIGH);
        Edge.refused(Edge::richWithText, "fasten(1, 2, #)", OUTSIDE, (x, n) -> x.fasten(1, 2, n), -1, 0, 100, LOW, HIGH);
        Edge.refused(EdgeCouldTest::slidAway, "slid away: fasten(0, #, 1)", NOT, (x, n) -> x.fasten(0, n, 1), 0, 1, 2, 3, 4);
        Edge.refused(EdgeCouldTest::slidAway, "slid away: fasten(0, #, 1)", OUTSIDE, (x, n) -> x.fasten(0, n, 1), -1, 5);
        Edge.refused(EdgeCouldTest::slidAway, "slid away: fasten(0, 2, #)", OUTSIDE, (x, n) -> x.fasten(0, 2, n), 0, 100);
        Edge.refused(EdgeCouldTest::slidAway, "slid away: fasten(#, 1, 1)", UNKNOWN, (x, n) -> x.fasten(n, 1, 1), -1, 2);
        Edge.due("slid away, of the cloth that it is under: fasten(1, 4, 0)", slidAway().fasten(1, 4, 0), 1);
        Edge.refused(ChairDen::new, "of nothing: fasten(#, 1, 1)", UNKNOWN, (x, n) -> x.fasten(n, 1, 1), -1, 0);
        for (int n : new int[] {LOW, -1, 0, 1, 99, 100, HIGH}) {
            for (int how : new int[] {0, 1, 3, 4}) {
                ChairDen x = Edge.rich();
                Edge.due("fasten(2, " + how + ", " + n + ")", x.fasten(2, how, n), 2);
                Edge.due("hold(2, 2)", x.hold(2, 2), how);
                Edge.due("hold(2, 3)", x.hold(2, 3), 0);
            }
        }
        for (int n : new int[] {1, 99}) {
            ChairDen x = Edge.rich();
            Edge.due("fasten(2, 2, " + n + ")", x.fasten(2, 2, n), 2);
            Edge.due("hold(2, 3)", x.hold(2, 3), n);
        }
    }

    private static void fastenAgain() {
        Edge.of("Promise 27", "A HOLD is held otherwise, and holds again: how it was held");
        ChairDen x = Edge.rich();
        Edge.due("hold(1, 4), it gave", x.hold(1, 4), 0);
        Edge.due("fasten(1, 0, 0)", x.fasten(1, 0, 0), 2);
        Edge.due("hold(1, 4)", x.hold(1, 4), 1);
        Edge.due("count(3)", x.count(3), 4);
        for (int how = 1; how <= 4; how++) {
            Edge.due("fasten(1, " + how + ", 7)", x.fasten(1, how, 7), how - 1);
        }
        Edge.due("fasten(1, 4, 0), as it is", x.fasten(1, 4, 0), 4);
        // What it does is seen at once, and events stay.
        Edge.due("gives(1, 999)", x.gives(1, 999), 0);
        Edge.due("count(5)", x.count(5), 1);
        Edge.due("fasten(1, 0, 0)", x.fasten(1, 0, 0), 4);
        Edge.due("gives(1, 999)", x.gives(1, 999), 1);
    }

    private static ChairDen pile(int... highAndHeavy) {
        StringBuilder s = new StringBuilder();
        for (int i = 0; i + 1 < highAndHeavy.length; i += 2) {
            s.append("thing ").append(i / 2).append(' ').append(highAndHeavy[i]).append(' ').append(highAndHeavy[i + 1]).append(" 9 9;");
        }
        return Check.den(s.toString());
    }

    private static void tower(String name, ChairDen x, int height, int... row) {
        Edge.due(name + ": tower(-1)", x.tower(NONE), height);
        for (int j = 0; j < row.length; j++) {
            Edge.due(name + ": tower(" + j + ")", x.tower(j), row[j]);
        }
        Edge.due(name + ": tower(" + row.length + ")", x.tower(row.length), NONE);
    }

    private static void towerPlaces() {
        Edge.of("Promise 28", "j = NONE its height, else THING j of it from below; NONE");
        Edge.refused(Edge::richWithText, "tower(#)", NONE, ChairDen::tower, -2, 4, 8, LOW, HIGH);
        Edge.refused(ChairDen::new, "of nothing: tower(#)", NONE, ChairDen::tower, -2, 0, 1, LOW, HIGH);
        Edge.still(ChairDen::new, "of nothing: tower(-1)", 0, x -> x.tower(NONE));
        Edge.still(Edge::richWithText, "tower(-1)", 31, x -> x.tower(NONE));
        tower("one", pile(7, 1), 7, 0);
        tower("eight", pile(1, 1, 1, 2, 1, 4, 1, 8, 1, 16, 1, 32, 1, 64, 20, 99), 27, 6, 7, 4, 5, 2, 3, 0, 1);
        // One that lies is as high as it was told.
        ChairDen x = pile(20, 1);
        x.rest(0, 1);
        tower("one that lies", x, 20, 0);
    }

    private static void towerThreeTimes() {
        Edge.of("Terms 4", "TOWER: each bears what is on it, all together, up to 3 times its W");
        tower("3 on 1", pile(5, 1, 3, 3), 8, 0, 1);
        tower("4 on 1, so turned", pile(5, 1, 3, 4), 8, 1, 0);
        tower("3 together on 1", pile(5, 1, 3, 2, 4, 1), 12, 0, 1, 2);
        tower("4 together on 1, so the next", pile(5, 1, 3, 2, 4, 2), 12, 1, 0, 2);
        tower("99 on 33", pile(2, 33, 2, 99), 4, 0, 1);
        tower("99 on 32", pile(2, 32, 2, 99), 4, 1, 0);
        // Of five like ones the fifth cannot be borne.
        tower("five like ones", pile(3, 9, 3, 9, 3, 9, 3, 9, 3, 9), 12, 0, 1, 2, 3);
        tower("four like ones", pile(3, 9, 3, 9, 3, 9, 3, 9), 12, 0, 1, 2, 3);
        tower("five, the least stays away", pile(1, 9, 3, 9, 3, 9, 3, 9, 3, 9), 12, 1, 2, 3, 4);
    }

    private static void towerFirstRow() {
        Edge.of("Terms 4", "TOWER: the row of it from below (of like ones the first, THING by THING the lesser ahead)");
        tower("like ones", pile(4, 5, 4, 5), 8, 0, 1);
        tower("the second alone bears", pile(4, 1, 4, 9), 8, 1, 0);
        // As high by fewer things: the row that begins with the lesser thing.
        tower("by one or by two", pile(2, 1, 2, 4, 2, 99, 4, 99), 10, 2, 3, 1, 0);
        tower("a later set of things", pile(1, 6, 4, 5, 4, 10, 4, 1, 2, 7, 1, 5, 2, 10, 1, 14), 18, 7, 2, 4, 6, 1, 5, 3);
        tower("one thing less", pile(4, 5, 3, 14, 3, 22, 3, 7, 2, 18, 2, 10, 4, 14, 1, 13), 19, 2, 1, 5, 3, 0, 6);
        tower("several less", pile(2, 4, 4, 4, 2, 4, 4, 8, 4, 8, 4, 5, 2, 8, 3, 7), 19, 3, 4, 1, 5, 7);
    }

    private static ChairDen wanting(String want) {
        ChairDen x = Check.den("thing 27 10 99 99 9; thing 0 10 99 99 9; cloth 18 3 3 1 1; cloth 0 1 1 1 1; hold 0 0 trapped; hold 1 1 peg;");
        Edge.due("want() of '" + want + "'", Edge.want(x, want), 0);
        return x;
    }

    private static void met(String want, int due) {
        Edge.still(() -> wanting(want), "met(0) of '" + want + "'", due, x -> x.met(0));
    }

    private static void metBounds() {
        Edge.of("Promise 29", "Whether a WANT is met now: 1, 0. UNKNOWN.");
        Edge.refused(Edge::richWithText, "met(#)", UNKNOWN, ChairDen::met, -1, 2, 3, 4, LOW, HIGH);
        Edge.refused(ChairDen::new, "without wants: met(#)", UNKNOWN, ChairDen::met, -1, 0, 3);
        Edge.still(Edge::richWithText, "met(0)", 1, x -> x.met(0));
        Edge.still(Edge::richWithText, "met(1)", 1, x -> x.met(1));
        ChairDen x = new ChairDen();
        for (int w = 0; w < 4; w++) {
            Edge.due("ahead: met(" + w + ")", x.met(w), UNKNOWN);
            Edge.due("want()", Edge.want(x, w % 2 == 0 ? "room 0" : "room 1"), w);
            Edge.due("behind: met(" + w + ")", x.met(w), w % 2 == 0 ? 1 : 0);
        }
        Edge.due("met(4)", x.met(4), UNKNOWN);
    }

    private static void metEdges() {
        Edge.of("Terms 4", "WANTS: N CELLS or more, its DARK is D or less, a DOOR (if told), STANDS (if told); 5, 99 untold");
        // Nine cells: eight 8 or 9 high, in a light of 50.
        met("room 8", 1);
        met("room 9", 0);
        met("room 64", 0);
        met("room 0", 1);
        met("room 8 high 8", 1);
        met("room 1 high 9", 1);
        met("room 2 high 9", 0);
        met("room 1 high 10", 0);
        met("room 8 dark 50", 1);
        met("room 8 dark 49", 0);
        met("room 8 dark 0", 0);
        met("room 8 dark 99", 1);
        met("room 8 door stands", 1);
        // 5 untold: rooms 4 and 5 high.
        for (int h : new int[] {5, 6}) {
            ChairDen x = Check.den("thing 27 " + h + " 99 99 9; cloth 27 1 2 1 1; hold 0 0 peg;");
            Edge.want(x, "room 1");
            Edge.due("a room " + (h - 1) + " high: met(0)", x.met(0), h - 5);
        }
        // 99 untold: as light as can be.
        ChairDen x = Check.den("thing 27 9 99 99 9; cloth 27 1 2 1 1; light 99 1; hold 0 0 peg;");
        Edge.want(x, "room 1 dark 97");
        Edge.want(x, "room 1 dark 98");
        Edge.want(x, "room 1");
        int[] due = {0, 1, 1};
        for (int w = 0; w < 3; w++) {
            Edge.due("in a light of 98: met(" + w + ")", x.met(w), due[w]);
        }
    }

    private static void metWithoutARoom() {
        Edge.of("Terms 4", "WANTS without a ROOM: 0 CELLS, 0 DOORS, DARK is NONE");
        met("room 0 high 10", 1);
        met("room 0 high 20 dark 0", 1);
        met("room 0 high 20 stands", 1);
        met("room 1 high 20", 0);
        met("room 0 high 20 door", 0);
        Edge.of("Terms 4", "WANTS: it has a DOOR (if 'door' is told), and THE DEN STANDS (if 'stands' is)");
        ChairDen x = Check.den("thing 0 20 99 99 9; cloth 0 8 8 1 1; hold 0 0 trapped;");
        Edge.want(x, "room 63 high 6 door");
        Edge.want(x, "room 63 high 6");
        Edge.want(x, "room 64 high 6");
        Edge.due("no door: met(0)", x.met(0), 0);
        Edge.due("not asked for: met(1)", x.met(1), 1);
        Edge.due("one cell less: met(2)", x.met(2), 0);
        x = Check.den("thing 0 10 99 99 9; cloth 0 1 8 6 1; hold 0 0 peg;");
        Edge.want(x, "room 1 stands");
        Edge.want(x, "room 1");
        Edge.due("it falls: met(0)", x.met(0), 0);
        Edge.due("not asked for: met(1)", x.met(1), 1);
        Edge.due("rest(-1, 0)", x.rest(NONE, 0), 1);
        Edge.due("fallen: met(0)", x.met(0), 0);
        Edge.due("fallen: met(1)", x.met(1), 0);
    }
}
