/** Every boundary case of rooms, doors and light: promises 18 to 21, and 'Terms' 3. */
public final class EdgeRoomTest {
    private static final int LOW = Edge.LOW, HIGH = Edge.HIGH, NONE = ChairDen.NONE;
    private static final String ROW = "thing 0 10 99 99 9; cloth 0 1 8 1 1; hold 0 0 trapped;";

    private EdgeRoomTest() {
    }

    public static void main(String[] args) {
        roomBounds();
        cellsBounds();
        roomsBounds();
        lightBounds();
        highEnough();
        heightTwenty();
        withoutThings();
        underACloth();
        together();
        likeSize();
        withoutARoom();
        doors();
        doorsShut();
        doorsAtTheEdge();
        lightBySteps();
        lightBelowNone();
        lightOfAll();
        dark();
        Edge.end();
    }

    private static long cells(int... of) {
        long all = 0;
        for (int c : of) {
            all |= 1L << c;
        }
        return all;
    }

    private static void room(String name, ChairDen x, int h, int... due) {
        for (int what = 0; what < 4; what++) {
            Edge.due(name + ": room(" + h + ", " + what + ")", x.room(h, what), due[what]);
        }
    }

    private static void roomBounds() {
        Edge.of("Promise 18", "The greatest ROOM for h: what = 0 .. 3. OUTSIDE. (h 1 .. 20)");
        Edge.refused(Edge::richWithText, "room(#, 0)", ChairDen.OUTSIDE, (x, n) -> x.room(n, 0), -1, 0, 21, LOW, HIGH);
        Edge.refused(Edge::richWithText, "room(5, #)", ChairDen.OUTSIDE, (x, n) -> x.room(5, n), -1, 4, LOW, HIGH);
        Edge.refused(ChairDen::new, "new: room(#, 0)", ChairDen.OUTSIDE, (x, n) -> x.room(n, 0), 0, 21);
        for (int what = 0; what < 4; what++) {
            int asked = what;
            Edge.still(() -> Check.den(ROW), "room(1, " + what + ")", new int[] {7, 1, 7, 50}[what], x -> x.room(1, asked));
            Edge.still(() -> Check.den(ROW), "room(20, " + what + ")", new int[] {0, NONE, 0, NONE}[what], x -> x.room(20, asked));
        }
    }

    private static void cellsBounds() {
        Edge.of("Promise 19", "CELLS of the greatest ROOM for h: the SET (of CELLS). OUTSIDE.");
        Edge.refused(Edge::richWithText, "cells(#)", ChairDen.OUTSIDE, ChairDen::cells, -1, 0, 21, LOW, HIGH);
        Edge.still(() -> Check.den(ROW), "cells(1)", 254, x -> x.cells(1));
        Edge.still(() -> Check.den(ROW), "cells(20)", 0, x -> x.cells(20));
        // The last cell is the sign of the number; the first its lowest bit.
        String all = "thing # 20 99 99 9; cloth 0 8 8 1 1; hold 0 0 trapped;";
        Edge.due("all but the first", Check.den(all.replace("#", "0")).cells(6), -2L);
        Edge.due("all but the last", Check.den(all.replace("#", "63")).cells(6), Long.MAX_VALUE);
        Edge.due("the last alone", Check.den("thing 62 20 99 99 9; cloth 62 1 2 1 1; hold 0 0 peg;").cells(1), Long.MIN_VALUE);
        Edge.due("the first alone", Check.den("thing 1 20 99 99 9; cloth 0 1 2 1 1; hold 0 0 peg;").cells(1), 1);
        Edge.due("31 to 33", Check.den("thing 30 20 99 99 9; cloth 30 1 2 1 1; cloth 31 2 1 1 1; thing 32 20 99 99 9;"
            + "cloth 32 1 2 1 1; hold 0 0 peg; hold 2 1 peg;").cells(19), cells(31));
    }

    private static void roomsBounds() {
        Edge.of("Promise 20", "How many ROOMS for h. OUTSIDE.");
        Edge.refused(Edge::richWithText, "rooms(#)", ChairDen.OUTSIDE, ChairDen::rooms, -1, 0, 21, LOW, HIGH);
        Edge.still(() -> Check.den(ROW), "rooms(1)", 1, x -> x.rooms(1));
        Edge.still(() -> Check.den(ROW), "rooms(20)", 0, x -> x.rooms(20));
        Edge.due("of nothing", new ChairDen().rooms(1), 0);
        // Every second cell of a row: four things, four rooms of one cell.
        ChairDen x = Check.den("thing 0 9 99 99 9; thing 2 9 99 99 9; thing 4 9 99 99 9; thing 6 9 99 99 9; cloth 0 1 8 1 1; hold 0 0 peg;"
            + "hold 0 1 peg; hold 0 2 peg; hold 0 3 peg;");
        Edge.due("rooms(8)", x.rooms(8), 4);
        Edge.due("rooms(9)", x.rooms(9), 0);
        Edge.due("cells(8)", x.cells(8), cells(1));
    }

    private static void lightBounds() {
        Edge.of("Promise 21", "LIGHT of a CELL. UNKNOWN.");
        Edge.refused(Edge::richWithText, "light(#)", ChairDen.UNKNOWN, ChairDen::light, -1, 64, LOW, HIGH);
        Edge.still(Edge::richWithText, "light(0)", 70, x -> x.light(0));
        Edge.still(Edge::richWithText, "light(63)", 70, x -> x.light(63));
        Edge.due("of nothing: light(0)", new ChairDen().light(0), 60);
        Edge.due("of nothing: light(63)", new ChairDen().light(63), 60);
        Edge.due("of nothing: light(64)", new ChairDen().light(64), ChairDen.UNKNOWN);
    }

    private static void highEnough() {
        Edge.of("Terms 3", "A ROOM for h: of a HEIGHT of h or more");
        ChairDen x = Check.den(ROW);
        for (int h = 1; h <= 20; h++) {
            // Cell c is 10 less c high.
            int many = h <= 3 ? 7 : h < 10 ? 10 - h : 0;
            Edge.due("room(" + h + ", 0)", x.room(h, 0), many);
            Edge.due("cells(" + h + ")", x.cells(h), (1L << (many + 1)) - 2);
            Edge.due("rooms(" + h + ")", x.rooms(h), many > 0 ? 1 : 0);
        }
        // Higher by either of two cloths.
        x = Check.den("thing 0 10 99 99 9; cloth 0 1 4 1 3; cloth 0 1 4 1 1; hold 0 0 peg; hold 1 0 peg;");
        Edge.due("two cloths: room(7, 0)", x.room(7, 0), 3);
        Edge.due("two cloths: room(8, 0)", x.room(8, 0), 2);
    }

    private static void heightTwenty() {
        Edge.of("Terms 3", "A ROOM for h (1 .. 20)");
        ChairDen x = Check.den("thing 0 20 99 99 9; cloth 0 8 8 1 1; hold 0 0 trapped;");
        Edge.due("cells(19)", x.cells(19), cells(1));
        Edge.due("rooms(19)", x.rooms(19), 2);
        Edge.due("cells(18)", x.cells(18), cells(1, 2, 8, 9, 16));
        Edge.due("room(17, 0)", x.room(17, 0), 9);
        room("only where the thing is", x, 20, 0, NONE, 0, NONE);
        // The floor itself is no height of 1.
        room("on the floor", Check.den("cloth 0 8 8 1 1;"), 1, 0, NONE, 0, NONE);
        x = Check.den("thing 0 2 99 99 9; cloth 0 1 4 1 1; hold 0 0 peg;");
        Edge.due("1 high: cells(1)", x.cells(1), cells(1));
    }

    private static void withoutThings() {
        Edge.of("Terms 3", "A ROOM: without a THING");
        ChairDen x = Check.den("thing 0 10 99 99 9; thing 3 1 9 99 1; thing 5 4 1 99 1; cloth 0 1 8 1 1; hold 0 0 trapped;");
        Edge.due("cells(1)", x.cells(1), cells(1, 2));
        Edge.due("rooms(1)", x.rooms(1), 3);
        Edge.due("rest(2, 1)", x.rest(2, 1), 1);
        Edge.due("one lies: thing(2, 5)", x.thing(2, 5), 1);
        Edge.due("one lies: rooms(1)", x.rooms(1), 3);
    }

    private static void underACloth() {
        Edge.of("Terms 3", "A ROOM: CELLS under a CLOTH");
        ChairDen x = Check.den("thing 27 9 99 99 9; cloth 27 1 2 1 1; hold 0 0 peg;");
        Edge.due("cells(1)", x.cells(1), cells(28));
        Edge.due("height(26)", x.height(26), NONE);
        // A thing high enough that lies under no cloth, and cells on both sides of it.
        x = Check.den("thing 27 9 99 99 9; cloth 26 1 1 1 1; cloth 28 1 1 1 1;");
        Edge.due("rooms(1)", x.rooms(1), 0);
    }

    private static void together() {
        Edge.of("Terms 3", "A ROOM: together by SIDES");
        // Cells at a corner of one another are not.
        ChairDen x = Check.den("thing 0 9 99 99 9; thing 9 9 99 99 9; cloth 0 2 2 1 1; hold 0 0 peg; hold 0 1 peg;");
        Edge.due("at corners: rooms(8)", x.rooms(8), 2);
        Edge.due("at corners: cells(8)", x.cells(8), cells(1));
        x = Check.den("thing 1 9 99 99 9; thing 8 9 99 99 9; cloth 0 2 2 1 1; hold 0 0 peg; hold 0 1 peg;");
        Edge.due("at other corners: rooms(8)", x.rooms(8), 2);
        Edge.due("at other corners: cells(8)", x.cells(8), cells(0));
        // Nor the last of a row and the first of the next.
        x = Check.den("thing 6 9 99 99 9; thing 9 9 99 99 9; cloth 6 1 2 1 1; cloth 8 1 2 1 1; hold 0 0 peg; hold 1 1 peg;");
        Edge.due("7 and 8: rooms(8)", x.rooms(8), 2);
        x = Check.den("thing 54 9 99 99 9; thing 57 9 99 99 9; cloth 54 1 2 1 1; cloth 56 1 2 1 1; hold 0 0 peg; hold 1 1 peg;");
        Edge.due("55 and 56: rooms(8)", x.rooms(8), 2);
        Edge.due("55 and 56: cells(8)", x.cells(8), cells(55));
        // Down and along they are; also from cloth to cloth.
        x = Check.den("thing 14 9 99 99 9; cloth 6 2 2 1 1; hold 0 0 peg;");
        Edge.due("6, 7, 15: rooms(7)", x.rooms(7), 1);
        Edge.due("6, 7, 15: cells(7)", x.cells(7), cells(6, 7, 15));
        x = Check.den("thing 0 9 99 99 9; thing 9 9 99 99 9; cloth 0 1 2 1 1; cloth 9 1 2 1 1; cloth 2 1 1 1 1; hold 0 0 peg; hold 1 1 peg;");
        Edge.due("1 and 10: rooms(1)", x.rooms(1), 2);
        x = Check.den("thing 0 9 99 99 9; thing 8 9 99 99 9; cloth 0 1 2 1 1; cloth 8 1 2 1 1; hold 0 0 peg; hold 1 1 peg;");
        Edge.due("1 and 9: cells(1)", x.cells(1), cells(1, 9));
    }

    private static void likeSize() {
        Edge.of("Terms 3", "the greatest ROOM (of like ones that with the least CELL)");
        ChairDen x = Check.den("thing 18 9 99 99 9; cloth 16 1 5 1 1; hold 0 0 peg;");
        room("like ones of a row", x, 7, 2, 16, 2, 50);
        Edge.due("like ones of a row: rooms(7)", x.rooms(7), 2);
        Edge.due("like ones of a row: cells(7)", x.cells(7), cells(16, 17));
        x = Check.den("thing 17 9 99 99 9; cloth 16 1 5 1 1; hold 0 0 peg;");
        room("the second is greater by one", x, 7, 2, 18, 2, 50);
        x = Check.den("thing 19 9 99 99 9; cloth 16 1 5 1 1; hold 0 0 peg;");
        room("the first is greater by one", x, 7, 2, 17, 2, 50);
        // Of three like ones, in the order of cells, not of places.
        x = Check.den("thing 3 9 99 99 9; thing 24 9 99 99 9; cloth 3 1 2 1 1; cloth 16 3 1 1 1; hold 1 1 peg; hold 0 0 peg;");
        Edge.due("three: rooms(8)", x.rooms(8), 3);
        Edge.due("three: cells(8)", x.cells(8), cells(4));
    }

    private static void withoutARoom() {
        Edge.of("Terms 3", "Without a ROOM: 0 CELLS, 0 DOORS, DARK is NONE");
        for (int h : new int[] {1, 5, 20}) {
            room("nothing at all", new ChairDen(), h, 0, NONE, 0, NONE);
            room("a cloth on the floor", Check.den("cloth 9 3 3 1 1;"), h, 0, NONE, 0, NONE);
            room("only a thing's cell", Check.den("thing 9 20 9 9 9; cloth 9 1 1 1 1; hold 0 0 peg;"), h, 0, NONE, 0, NONE);
        }
        ChairDen x = Check.den(ROW);
        room("one less", x, 9, 1, 1, 1, 50);
        room("too high", x, 10, 0, NONE, 0, NONE);
        Edge.due("too high: cells(10)", x.cells(10), 0);
        Edge.due("too high: rooms(10)", x.rooms(10), 0);
    }

    private static void doors() {
        Edge.of("Terms 3", "DOORS: CELLS of it with a SIDE, on THE FLOOR and without a THING, that is under no CLOTH");
        // Nine cells around a thing: each of the eight has one side out or two, and counts once.
        String tent = "thing 27 10 99 99 9; cloth 18 3 3 1 1; hold 0 0 trapped;";
        room("eight", Check.den(tent), 8, 8, 18, 8, 50);
        Edge.due("a corner with one side shut", Check.den(tent + "thing 10 1 9 9 9;").room(8, 2), 8);
        Edge.due("a corner with both sides shut", Check.den(tent + "thing 10 1 9 9 9; thing 17 1 9 9 9;").room(8, 2), 7);
        Edge.due("all four sides of the middle shut", Check.den(tent + "thing 11 1 9 9 9; thing 25 1 9 9 9; thing 29 1 9 9 9;"
            + "thing 43 1 9 9 9;").room(8, 2), 4);
        // A thing at a corner outside shuts nothing.
        Edge.due("outside at a corner", Check.den(tent + "thing 9 1 9 9 9; thing 13 1 9 9 9;").room(8, 2), 8);
        // A cell in the middle of the room has none.
        ChairDen x = Check.den("thing 18 20 99 99 9; cloth 18 4 4 1 1; hold 0 0 trapped;");
        Edge.due("four by four: room(1, 0)", x.room(1, 0), 15);
        Edge.due("four by four: room(1, 2)", x.room(1, 2), 11);
    }

    private static void doorsShut() {
        Edge.of("Terms 3", "DOORS: a SIDE without a THING, also one that lies; under no CLOTH, however low");
        String den = "thing 1 10 99 99 9; cloth 0 1 8 1 1; hold 0 0 trapped;";
        room("a row", Check.den(den), 4, 6, 2, 6, 50);
        ChairDen x = Check.den(den + "thing 12 20 1 99 1;");
        Edge.due("one side shut: room(4, 2)", x.room(4, 2), 5);
        Edge.due("rest(1, 1)", x.rest(1, 1), 1);
        Edge.due("what shuts it lies: room(4, 2)", x.room(4, 2), 5);
        room("all under another cloth", Check.den(den + "cloth 8 1 8 1 1;"), 4, 6, 2, 0, 40);
        room("all but the last", Check.den(den + "cloth 8 1 7 1 1;"), 4, 6, 2, 1, 50);
        room("the last is shut by a thing", Check.den(den + "cloth 8 1 7 1 1; thing 15 1 9 9 9;"), 4, 6, 2, 0, 50);
    }

    private static void doorsAtTheEdge() {
        Edge.of("Terms 3", "DOORS: a SIDE, on THE FLOOR");
        // Cell 8 alone is open in the next row: it is no side of 7, and 0 has the thing.
        ChairDen x = Check.den("thing 0 10 99 99 9; cloth 0 1 8 1 1; cloth 9 1 7 1 1; hold 0 0 trapped;");
        room("8 is open", x, 3, 7, 1, 0, 40);
        x = Check.den("thing 0 10 99 99 9; cloth 0 1 8 1 1; cloth 8 1 7 1 1; hold 0 0 trapped;");
        room("15 is open", x, 3, 7, 1, 1, 50);
        x = Check.den("thing 63 10 99 99 9; cloth 56 1 8 1 1; cloth 48 1 7 1 1; hold 0 0 trapped;");
        room("55 is open", x, 3, 7, 56, 0, 40);
        x = Check.den("thing 63 10 99 99 9; cloth 56 1 8 1 1; cloth 49 1 7 1 1; hold 0 0 trapped;");
        room("48 is open", x, 3, 7, 56, 1, 50);
        x = Check.den("thing 0 20 99 99 9; cloth 0 8 8 1 1; hold 0 0 trapped;");
        room("all the floor", x, 6, 63, 1, 0, 0);
    }

    private static void lightBySteps() {
        Edge.of("Terms 3", "LIGHT: N less M times the least STEPS to a CELL without a CLOTH over it; N for such a one");
        // Five by five: three steps from the middle.
        ChairDen x = Check.den("cloth 9 5 5 1 1; light 99 7;");
        int[] cells = {0, 14, 49, 9, 10, 13, 18, 19, 27, 28, 36, 37, 45};
        int[] steps = {0, 0, 0, 1, 1, 1, 2, 2, 3, 2, 2, 1, 1};
        for (int i = 0; i < cells.length; i++) {
            Edge.due("light(" + cells[i] + ")", x.light(cells[i]), 99 - 7 * steps[i]);
        }
        // One cell alone is open, with a thing on it: the farthest is 14 steps off, around no corner.
        String open = "cloth 0 8 7 1 1; cloth 7 7 1 1 1; thing 63 1 9 9 9; light 99 #;";
        Edge.due("14 steps: light(0)", Check.den(open.replace("#", "1")).light(0), 85);
        Edge.due("14 steps: light(63)", Check.den(open.replace("#", "1")).light(63), 99);
        Edge.due("14 steps of 7: light(0)", Check.den(open.replace("#", "7")).light(0), 1);
        Edge.due("14 steps of 8: light(0)", Check.den(open.replace("#", "8")).light(0), 0);
        // The edge of the floor lets no light in, nor the next row's begin.
        x = Check.den("cloth 0 1 8 1 1; cloth 9 1 7 1 1; light 99 1;");
        Edge.due("light(0)", x.light(0), 98);
        Edge.due("light(7)", x.light(7), 97);
    }

    private static void lightBelowNone() {
        Edge.of("Terms 3", "LIGHT: 0 at least");
        String den = "cloth 9 5 5 1 1; light # 10;";
        Edge.due("30 less 30", Check.den(den.replace("#", "30")).light(27), 0);
        Edge.due("31 less 30", Check.den(den.replace("#", "31")).light(27), 1);
        Edge.due("29 less 30", Check.den(den.replace("#", "29")).light(27), 0);
        Edge.due("0 less 30", Check.den(den.replace("#", "0")).light(27), 0);
        Edge.due("0 without a cloth over it", Check.den(den.replace("#", "0")).light(0), 0);
        Edge.due("19 less 20", Check.den("cloth 9 1 1 1 1; light 19 20;").light(9), 0);
        Edge.due("20 less 20", Check.den("cloth 9 1 1 1 1; light 20 20;").light(9), 0);
        Edge.due("21 less 20", Check.den("cloth 9 1 1 1 1; light 21 20;").light(9), 1);
    }

    private static void lightOfAll() {
        Edge.of("Terms 3", "LIGHT: (100 STEPS without such)");
        ChairDen x = Check.den("cloth 0 8 8 1 1; light 99 1;");
        for (int c = 0; c < 64; c++) {
            Edge.due("light(" + c + ")", x.light(c), 0);
        }
        x = Check.den("cloth 0 4 8 1 1; cloth 32 4 8 1 1; light 99 20;");
        Edge.due("by two cloths: light(0)", x.light(0), 0);
        Edge.due("untold: light(63)", Check.den("cloth 0 8 8 1 1;").light(63), 0);
        x = Check.den("thing 0 20 99 99 9; cloth 0 8 8 1 1; light 99 1; hold 0 0 trapped;");
        room("its ROOM", x, 6, 63, 1, 0, 0);
    }

    private static void dark() {
        Edge.of("Terms 3", "DARK of a ROOM: the greatest LIGHT of its CELLS");
        ChairDen x = Check.den("thing 27 10 99 99 9; cloth 9 5 5 1 1; light 50 12; hold 0 0 trapped;");
        Edge.due("all: room(6, 3)", x.room(6, 3), 38);
        Edge.due("the ring about the thing: room(8, 0)", x.room(8, 0), 12);
        Edge.due("the ring about the thing: room(8, 3)", x.room(8, 3), 38);
        Edge.due("a side of the thing: room(9, 3)", x.room(9, 3), 26);
        // The ROOM's own cells alone count: the higher ones lie further in.
        x = Check.den("thing 36 20 99 99 9; cloth 18 5 5 1 1; light 20 20; hold 0 0 trapped;");
        Edge.due("dark: room(5, 3)", x.room(5, 3), 0);
    }
}
