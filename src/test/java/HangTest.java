/** Promises 7 to 11: things, holds, what hangs where and leans on what. */
public final class HangTest {
    /** Two chairs at the ends of a row, a cloth of two rows from one to the other. */
    private static final String TWO = "thing 0 10 50 51 5; thing 7 6 49 50 4; cloth 0 2 8 1 2;"
        + "hold 0 0 peg; hold 0 1 book 33;";

    private HangTest() {
    }

    public static void main(String[] args) {
        things();
        holds();
        hanging();
        edges();
        likeOnes();
        heights();
        refusals();
        Check.end();
    }

    private static void row(String name, ChairDen x, int first, int... due) {
        for (int i = 0; i < due.length; i++) {
            Check.due(name + ": hangs(0, " + (first + i) + ")", x.hangs(0, first + i), due[i]);
        }
    }

    private static void leaning(String name, ChairDen x, int first, int... due) {
        for (int i = 0; i < due.length; i++) {
            Check.due(name + ": leans(0, " + (first + i) + ")", x.leans(0, first + i), due[i]);
        }
    }

    private static void things() {
        ChairDen x = Check.den(TWO);
        int[][] due = {{0, 10, 50, 51, 5, 0, 5, 8, 8}, {7, 6, 49, 50, 4, 0, 3, -4, 4}};
        for (int t = 0; t < 2; t++) {
            for (int what = 0; what <= 8; what++) {
                Check.due("thing(" + t + ", " + what + ")", x.thing(t, what), due[t][what]);
            }
        }
        // 8 and 18 times 10 are more than 50 times 5: it lies, and what it holds hangs from 1.
        Check.due("rest(0, 18)", x.rest(0, 18), 1);
        Check.due("thing(0, 5)", x.thing(0, 5), 1);
        Check.due("thing(0, 1)", x.thing(0, 1), 10);
        row("lying", x, 0, 1, 0, 0, 0, 0, 2, 4, 6);
        leaning("lying", x, 0, 0, -1, -1, -1, 1, 1, 1, 1);
    }

    private static void holds() {
        ChairDen x = Check.den(TWO);
        int[][] due = {{0, 0, 1, 0, 1, 8, 10}, {0, 1, 2, 33, 1, 4, 6}};
        for (int k = 0; k < 2; k++) {
            for (int what = 0; what <= 6; what++) {
                Check.due("hold(" + k + ", " + what + ")", x.hold(k, what), due[k][what]);
            }
        }
        x = Check.den(TWO + "cloth 7 1 1 9 9; hold 1 1 laid;");
        Check.due("of the second cloth: hold(2, 0)", x.hold(2, 0), 1);
        Check.due("of the second cloth: hold(2, 2)", x.hold(2, 2), 0);
        Check.due("of the second cloth: hold(2, 5)", x.hold(2, 5), 0);
        Check.due("of the second cloth: hold(2, 6)", x.hold(2, 6), 9);
        Check.due("rest(1, 62)", x.rest(1, 62), 1);
        Check.due("gone: hold(1, 4)", x.hold(1, 4), 1);
        Check.due("gone: hold(2, 4)", x.hold(2, 4), 0);
        Check.due("gone: hold(2, 5)", x.hold(2, 5), 0);
        Check.due("gone: hold(2, 6)", x.hold(2, 6), 0);
        Check.due("gone: hold(2, 2)", x.hold(2, 2), 0);
    }

    private static void hanging() {
        ChairDen x = Check.den(TWO);
        row("first row", x, 0, 10, 8, 6, 4, 2, 2, 4, 6);
        row("second row", x, 8, 8, 6, 4, 2, 0, 0, 2, 4);
        row("not under", x, 16, -1, -1, -1);
        leaning("first row", x, 0, 0, 0, 0, 0, 0, 1, 1, 1);
        // What hangs at 0 by a hold still leans on it.
        leaning("second row", x, 8, 0, 0, 0, 0, 0, 1, 1, 1);
        leaning("not under", x, 16, ChairDen.NOT);
        // A thing that holds nothing bears the cloth, and is leant on by nothing that is a hold.
        x = Check.den(TWO + "thing 3 5 9 9 9; thing 4 2 9 9 9; thing 10 3 9 9 9;");
        row("on things", x, 0, 10, 8, 6, 5, 2, 2, 4, 6);
        leaning("on things", x, 0, 0, 0, 0, -1, 0, 1, 1, 1);
        row("on things", x, 8, 8, 6, 4, 2, 0, 0, 2, 4);
        Check.due("on things: hold(0, 6)", x.hold(0, 6), 9);
        Check.due("on things: hold(0, 5)", x.hold(0, 5), 7);
    }

    private static void edges() {
        // Lower than the floor nothing hangs, and there it leans on nothing.
        ChairDen x = Check.den("thing 20 3 50 50 5; cloth 16 1 8 1 2; hold 0 0 peg;");
        row("down to the floor", x, 16, 0, 0, 0, 1, 3, 1, 0, 0);
        leaning("down to the floor", x, 16, -1, -1, -1, 0, 0, 0, -1, -1);
        Check.due("hold(0, 5)", x.hold(0, 5), 0);
        Check.due("hold(0, 6)", x.hold(0, 6), 3);
        // Without holds: on things and the floor.
        x = Check.den("thing 20 3 50 50 5; cloth 16 1 8 1 2;");
        row("no holds", x, 16, 0, 0, 0, 0, 3, 0, 0, 0);
        leaning("no holds", x, 16, -1, -1, -1, -1, -1, -1, -1, -1);
        // Up and back are less: both sums are drawn against their directions.
        x = Check.den("thing 63 20 99 99 9; cloth 54 2 2 3 1; hold 0 0 peg;");
        Check.due("thing(0, 6)", x.thing(0, 6), -6);
        Check.due("thing(0, 7)", x.thing(0, 7), -6);
        Check.due("thing(0, 8)", x.thing(0, 8), 6);
        Check.due("hold(0, 6)", x.hold(0, 6), 12);
        row("of the last corner", x, 54, 18, 19);
        row("of the last corner", x, 62, 19, 20);
    }

    private static void likeOnes() {
        // The cell in the middle is as high by both: it leans on the lesser hold, whichever way they are told.
        ChairDen x = Check.den("thing 0 9 50 50 5; thing 4 9 50 50 5; cloth 0 1 5 1 1; hold 0 0 peg; hold 0 1 peg;");
        leaning("like ones", x, 0, 0, 0, 0, 1, 1);
        x = Check.den("thing 0 9 50 50 5; thing 4 9 50 50 5; cloth 0 1 5 1 1; hold 0 1 peg; hold 0 0 peg;");
        leaning("like ones, turned", x, 0, 1, 1, 0, 0, 0);
        row("like ones, turned", x, 0, 9, 8, 7, 8, 9);
    }

    private static void heights() {
        ChairDen x = Check.den("thing 0 10 50 50 5; thing 3 12 50 50 5; cloth 0 1 4 1 1; cloth 2 1 4 1 3;"
            + "hold 0 0 peg; hold 1 1 peg;");
        int[] due = {10, 9, 9, 12, 9, 6, -1, -1, -1};
        for (int c = 0; c < due.length; c++) {
            Check.due("height(" + c + ")", x.height(c), due[c]);
        }
        Check.due("hangs(0, 2)", x.hangs(0, 2), 8);
        Check.due("hangs(1, 2)", x.hangs(1, 2), 9);
        Check.due("hangs(0, 3)", x.hangs(0, 3), 12);
        Check.due("leans(0, 3)", x.leans(0, 3), -1);
        Check.due("leans(1, 3)", x.leans(1, 3), 1);
        Check.due("hangs(1, 1)", x.hangs(1, 1), -1);
    }

    private static void refusals() {
        ChairDen x = Check.den(TWO);
        int[] numbers = {-1, 2, 1000, Integer.MIN_VALUE, Integer.MAX_VALUE};
        for (int bad : numbers) {
            Check.due("thing(" + bad + ", 0)", x.thing(bad, 0), ChairDen.UNKNOWN);
            Check.due("thing(" + bad + ", 99)", x.thing(bad, 99), ChairDen.UNKNOWN);
            Check.due("hold(" + bad + ", 0)", x.hold(bad, 0), ChairDen.UNKNOWN);
            Check.due("hold(" + bad + ", 99)", x.hold(bad, 99), ChairDen.UNKNOWN);
            Check.due("hangs(" + bad + ", 0)", x.hangs(bad, 0), ChairDen.UNKNOWN);
            Check.due("leans(" + bad + ", 0)", x.leans(bad, 0), ChairDen.UNKNOWN);
        }
        for (int bad : new int[] {-1, 9, Integer.MIN_VALUE, Integer.MAX_VALUE}) {
            Check.due("thing(0, " + bad + ")", x.thing(0, bad), ChairDen.OUTSIDE);
        }
        for (int bad : new int[] {-1, 7, Integer.MIN_VALUE, Integer.MAX_VALUE}) {
            Check.due("hold(0, " + bad + ")", x.hold(0, bad), ChairDen.OUTSIDE);
        }
        for (int bad : new int[] {-1, 64, Integer.MIN_VALUE, Integer.MAX_VALUE}) {
            Check.due("hangs(0, " + bad + ")", x.hangs(0, bad), ChairDen.UNKNOWN);
            Check.due("leans(0, " + bad + ")", x.leans(0, bad), ChairDen.UNKNOWN);
            Check.due("height(" + bad + ")", x.height(bad), ChairDen.UNKNOWN);
        }
        Check.due("hangs(1, 0)", x.hangs(1, 0), ChairDen.UNKNOWN);
        Check.due("leans(1, 63)", x.leans(1, 63), ChairDen.UNKNOWN);
        Check.due("hangs(0, 63)", x.hangs(0, 63), ChairDen.NONE);
        Check.due("leans(0, 63)", x.leans(0, 63), ChairDen.NOT);
    }
}
