/** Promises 18 to 21: rooms, their doors, and how dark it is. */
public final class RoomTest {
    /** A chair in the middle of a cloth of nine cells: its sides are 9 high, its corners 8. */
    private static final String TENT = "thing 27 10 99 99 9; cloth 18 3 3 1 1; hold 0 0 trapped;";

    private RoomTest() {
    }

    public static void main(String[] args) {
        tent();
        likeOnes();
        doors();
        light();
        edgesOfTheFloor();
        afterRest();
        refusals();
        Check.end();
    }

    private static long cells(int... of) {
        long all = 0;
        for (int c : of) {
            all |= 1L << c;
        }
        return all;
    }

    private static void room(String name, ChairDen x, int h, int... due) {
        for (int what = 0; what < 4; what++) {
            Check.due(name + ": room(" + h + ", " + what + ")", x.room(h, what), due[what]);
        }
    }

    private static void tent() {
        ChairDen x = Check.den(TENT);
        room("all but the chair", x, 8, 8, 18, 8, 50);
        Check.due("cells(8)", x.cells(8), cells(18, 19, 20, 26, 28, 34, 35, 36));
        Check.due("rooms(8)", x.rooms(8), 1);
        room("the sides", x, 9, 1, 19, 1, 50);
        Check.due("cells(9)", x.cells(9), cells(19));
        Check.due("rooms(9)", x.rooms(9), 4);
        // The chair's own cell is high enough, but it is in it.
        room("too high", x, 10, 0, -1, 0, -1);
        Check.due("cells(10)", x.cells(10), 0);
        Check.due("rooms(10)", x.rooms(10), 0);
        room("low", x, 1, 8, 18, 8, 50);
        // One that lies is in its cell too.
        Check.due("rest(0, 999)", x.rest(0, 999) > 0 ? 1 : 0, 1);
        Check.due("thing(0, 5)", x.thing(0, 5), 1);
        Check.due("lying: rooms(1)", x.rooms(1), 0);
    }

    private static void likeOnes() {
        // Two rooms of two cells, parted by a thing; then the second is greater.
        ChairDen x = Check.den("thing 18 9 99 99 9; cloth 16 1 5 1 1; hold 0 0 peg;");
        Check.due("rooms(7)", x.rooms(7), 2);
        room("like ones", x, 7, 2, 16, 2, 50);
        x = Check.den("thing 17 9 99 99 9; cloth 16 1 5 1 1; hold 0 0 peg;");
        Check.due("rooms(7)", x.rooms(7), 2);
        room("the second", x, 7, 2, 18, 2, 50);
        Check.due("cells(7)", x.cells(7), cells(18, 19));
        Check.due("cells(6)", x.cells(6), cells(18, 19, 20));
        // Rows end at the edge: the last cell of one is no side of the first of the next.
        x = Check.den("thing 0 9 99 99 9; cloth 0 1 8 1 1; cloth 8 1 1 1 1; hold 0 0 trapped;");
        Check.due("at the edge: cells(1)", x.cells(1), cells(1, 2, 3, 4, 5, 6, 7));
        x = Check.den("thing 15 9 99 99 9; thing 24 9 99 99 9; cloth 15 1 1 1 1; cloth 7 2 1 1 1; cloth 16 2 1 1 1;"
            + "hold 1 0 tied; hold 2 1 tied;");
        Check.due("at both edges: rooms(8)", x.rooms(8), 2);
        Check.due("at both edges: cells(8)", x.cells(8), cells(7));
    }

    private static void doors() {
        // Outside of one side a thing stands: there no one comes in.
        ChairDen x = Check.den(TENT + "thing 11 3 9 9 9;");
        room("one shut", x, 8, 8, 18, 7, 50);
        // What lies before it shuts it too; a corner has two sides.
        x = Check.den(TENT + "thing 10 3 9 9 9; thing 35 1 9 9 9;");
        room("a corner", x, 8, 7, 18, 7, 50);
        // Under another cloth is not outside, however low that hangs; and the edge of the floor is no door.
        x = Check.den("thing 1 10 99 99 9; cloth 0 1 8 1 1; cloth 8 1 8 1 1; hold 0 0 trapped;");
        room("shut in", x, 1, 6, 2, 0, 40);
        x = Check.den("thing 1 10 99 99 9; cloth 0 1 8 1 1; cloth 8 1 7 1 1; hold 0 0 trapped;");
        room("one door", x, 1, 6, 2, 1, 50);
    }

    private static void light() {
        ChairDen x = Check.den(TENT);
        Check.due("outside: light(0)", x.light(0), 60);
        Check.due("a side: light(19)", x.light(19), 50);
        Check.due("a corner: light(18)", x.light(18), 50);
        Check.due("the middle: light(27)", x.light(27), 40);
        x = Check.den("light 20 15;" + TENT);
        Check.due("20 15: light(63)", x.light(63), 20);
        Check.due("20 15: light(19)", x.light(19), 5);
        Check.due("20 15: light(27)", x.light(27), 0);
        room("20 15", x, 8, 8, 18, 8, 5);
        x = Check.den("light 99 1; cloth 0 8 7 1 1; thing 0 9 99 99 9; hold 0 0 trapped;");
        Check.due("seven steps: light(0)", x.light(0), 92);
        Check.due("seven steps: light(7)", x.light(7), 99);
        Check.due("two cloths: height(7)", x.height(7), -1);
        // Steps go straight, past whatever is there.
        x = Check.den("light 99 1; cloth 0 8 7 1 1; cloth 7 7 1 1 1;");
        Check.due("to the last cell: light(0)", x.light(0), 85);
        Check.due("to the last cell: light(62)", x.light(62), 98);
        // Nowhere is without a cloth.
        x = Check.den("light 99 1; cloth 0 8 8 1 1; thing 0 9 99 99 9; hold 0 0 trapped;");
        Check.due("all covered: light(0)", x.light(0), 0);
        Check.due("all covered: room(5, 2)", x.room(5, 2), 0);
        Check.due("all covered: room(5, 3)", x.room(5, 3), 0);
        x = Check.den("light 0 20;" + TENT);
        Check.due("no light: light(0)", x.light(0), 0);
    }

    private static void edgesOfTheFloor() {
        ChairDen x = Check.den("thing 0 20 99 99 9; cloth 0 8 8 1 1; hold 0 0 trapped;");
        Check.due("cells(6)", x.cells(6), -2L);
        Check.due("room(6, 0)", x.room(6, 0), 63);
        Check.due("cells(20)", x.cells(20), 0);
        Check.due("cells(19)", x.cells(19), cells(1));
        x = Check.den("thing 62 20 99 99 9; cloth 62 1 2 1 1; hold 0 0 trapped;");
        Check.due("cells(1) of the last", x.cells(1), Long.MIN_VALUE);
        Check.due("room(1, 1) of the last", x.room(1, 1), 63);
    }

    private static void afterRest() {
        ChairDen x = Check.den("thing 0 10 99 99 9; cloth 0 1 8 1 1; hold 0 0 peg;");
        room("held", x, 5, 5, 1, 5, 50);
        Check.due("rest(0, 34)", x.rest(0, 34), 1);
        room("fallen", x, 1, 0, -1, 0, -1);
    }

    private static void refusals() {
        ChairDen x = Check.den(TENT);
        for (int bad : new int[] {0, 21, -1, Integer.MIN_VALUE, Integer.MAX_VALUE}) {
            Check.due("room(" + bad + ", 0)", x.room(bad, 0), ChairDen.OUTSIDE);
            Check.due("cells(" + bad + ")", x.cells(bad), ChairDen.OUTSIDE);
            Check.due("rooms(" + bad + ")", x.rooms(bad), ChairDen.OUTSIDE);
        }
        for (int bad : new int[] {-1, 4, Integer.MIN_VALUE, Integer.MAX_VALUE}) {
            Check.due("room(5, " + bad + ")", x.room(5, bad), ChairDen.OUTSIDE);
        }
        for (int bad : new int[] {-1, 64, Integer.MIN_VALUE, Integer.MAX_VALUE}) {
            Check.due("light(" + bad + ")", x.light(bad), ChairDen.UNKNOWN);
        }
        Check.due("room(20, 0)", x.room(20, 0), 0);
    }
}
