/** Promises 12 to 17: what gives, tips and slides, round by round; what is borne. */
public final class RestTest {
    private RestTest() {
    }

    public static void main(String[] args) {
        giving();
        tipping();
        sliding();
        slidingWays();
        leavingCloths();
        rounds();
        order();
        bearing();
        refusals();
        Check.end();
    }

    /** A row of cloth from one heavy thing in the corner: a draw of 7, a load of 8 times G. */
    private static ChairDen line(int g, int rub, String how) {
        return Check.den("thing 0 20 99 " + rub + " 9; cloth 0 1 8 " + g + " 1; hold 0 0 " + how + ";");
    }

    private static void given(int g, int rub, String how, int b, int due) {
        ChairDen x = line(g, rub, how);
        String name = how + " of " + 7 * g + " and " + b;
        Check.due(name + ": gives(0, b)", x.gives(0, b), due);
        x.rest(0, b);
        Check.due(name + ": count(3)", x.count(3), 1 - due);
    }

    private static void giving() {
        given(1, 9, "laid", 0, 0);
        given(1, 8, "laid", 0, 1);
        given(1, 9, "laid", 1, 1);
        given(1, 50, "laid", 33, 0);
        given(1, 50, "laid", 34, 1);
        given(5, 99, "peg", 5, 0);
        given(5, 99, "peg", 6, 1);
        given(6, 99, "peg", 0, 1);
        given(1, 99, "book 4", 1, 0);
        given(1, 99, "book 4", 2, 1);
        given(1, 99, "book 3", 0, 1);
        given(9, 99, "tied", 17, 0);
        given(9, 99, "tied", 18, 1);
        given(9, 99, "trapped", 999, 0);
        ChairDen x = line(6, 99, "peg");
        Check.due("rest(-1, 0)", x.rest(-1, 0), 1);
        Check.due("event(0, 0)", x.event(0, 0), 0);
        Check.due("event(0, 1)", x.event(0, 1), 0);
        Check.due("hangs(0, 1)", x.hangs(0, 1), 0);
        Check.due("gives(0, 0) when gone", x.gives(0, 0), ChairDen.NOT);
    }

    private static void tipping() {
        // 7 times 10, against W times B of 70 and 69.
        ChairDen x = Check.den("thing 0 10 35 99 2; cloth 0 1 8 1 1; hold 0 0 tied;");
        Check.due("as much: stands()", x.stands(), 1);
        Check.due("as much: bears(0, 1)", x.bears(0, 1), 0);
        x = Check.den("thing 0 10 23 99 3; cloth 0 1 8 1 1; hold 0 0 tied;");
        Check.due("more: stands()", x.stands(), 0);
        Check.due("more: rest(-1, 0)", x.rest(-1, 0), 1);
        Check.due("more: event(0, 0)", x.event(0, 0), 1);
        Check.due("more: event(0, 1)", x.event(0, 1), 0);
        Check.due("more: thing(0, 5)", x.thing(0, 5), 1);
        Check.due("more: hold(0, 4)", x.hold(0, 4), 1);
        // What lies tips no more, however it is bumped.
        Check.due("lying: gives(0, 80)", x.gives(0, 79), 0);
        Check.due("lying: bears(0, 79)", x.bears(0, 79), 1);
        // The greater of both sums without sign, not both together.
        x = Check.den("thing 27 10 10 99 1; cloth 27 2 2 1 1; hold 0 0 tied;");
        Check.due("both ways: thing(0, 8)", x.thing(0, 8), 2);
        Check.due("both ways: rest(-1, 0)", x.rest(-1, 0), 1);
        x = Check.den("thing 27 10 20 99 1; cloth 27 2 2 1 1; hold 0 0 tied;");
        Check.due("both ways: stands()", x.stands(), 1);
    }

    private static void sliding() {
        // Drawn by 3 along; W and LOAD are 13: 1 is borne.
        ChairDen x = Check.den("thing 2 10 5 1 9; cloth 0 1 8 1 1; hold 0 0 tied;");
        Check.due("rest(-1, 0)", x.rest(-1, 0), 1);
        Check.due("event(0, 0)", x.event(0, 0), 2);
        Check.due("event(0, 1)", x.event(0, 1), 0);
        Check.due("thing(0, 0)", x.thing(0, 0), 3);
        Check.due("hold(0, 4)", x.hold(0, 4), 1);
        Check.due("thing(0, 7)", x.thing(0, 7), 1);
        // The book's weight is on it: 5, 8 and 17 are 30.
        x = Check.den("thing 2 10 5 1 9; cloth 0 1 8 1 1; hold 0 0 book 17;");
        Check.due("with a book: stands()", x.stands(), 1);
        Check.due("with a peg: fasten(0, 1, 0)", x.fasten(0, 1, 0), 2);
        Check.due("with a peg: stands()", x.stands(), 0);
        Check.due("with a book: fasten(0, 2, 16)", x.fasten(0, 2, 16), 1);
        Check.due("with a lighter book: stands()", x.stands(), 0);
        // Where a thing is, no other slides.
        x = Check.den("thing 2 10 5 1 9; thing 3 1 9 9 9; cloth 0 1 8 1 1; hold 0 0 tied;");
        Check.due("in the way: stands()", x.stands(), 1);
        // Pulled to and fro without end, it is cut off at 60.
        x = Check.den("thing 2 10 5 0 9; cloth 0 1 8 1 1; hold 0 0 tied;");
        Check.due("to and fro: rest(-1, 0)", x.rest(-1, 0), 60);
        Check.due("to and fro: count(5)", x.count(5), 60);
        Check.due("to and fro: thing(0, 0)", x.thing(0, 0), 4);
        Check.due("to and fro: event(59, 0)", x.event(59, 0), 2);
        Check.due("to and fro: event(60, 0)", x.event(60, 0), ChairDen.NONE);
    }

    /** Where a light thing in the middle of the floor slides to by a cloth, and a bump. */
    private static void slid(String cloth, int b, int due) {
        ChairDen x = Check.den("thing 27 1 99 1 9; cloth " + cloth + " 9 1; hold 0 0 trapped;");
        Check.due(cloth + ": thing(0, 5)", x.thing(0, 5), 0);
        x.rest(0, b);
        Check.due(cloth + " and " + b + ": event(0, 0)", x.event(0, 0), due == 27 ? -1 : 2);
        Check.due(cloth + " and " + b + ": thing(0, 0)", x.thing(0, 0), due);
        Check.due(cloth + " and " + b + ": count(5)", x.count(5), due == 27 ? 0 : 1);
    }

    private static void slidingWays() {
        // One step high: the sides of its cell lean on it at 0, and draw by 9; 11 or so is borne.
        slid("27 1 1", 9, 27);
        slid("27 1 1", 12, 35);
        slid("19 2 1", 4, 19);
        slid("27 2 1", 4, 35);
        slid("26 1 2", 4, 26);
        slid("27 1 2", 4, 28);
        // Of like ones the rows; what goes both ways evenly is no pull at all.
        slid("18 2 2", 6, 19);
        slid("27 2 2", 6, 35);
        slid("19 3 1", 4, 27);
        slid("19 3 1", 13, 35);
        // At the edge a bump alone leads nowhere.
        ChairDen x = Check.den("thing 60 1 10 0 9;");
        Check.due("at the edge: bears(0, 90)", x.bears(0, 90), 1);
        Check.due("at the edge: weakest(0)", x.weakest(0), 91);
        x = Check.den("thing 52 1 10 5 9; thing 60 1 10 99 9;");
        Check.due("a thing below: weakest(0)", x.weakest(0), 91);
        x = Check.den("thing 52 1 10 5 9;");
        Check.due("free: weakest(0)", x.weakest(0), 6);
        Check.due("free: rest(0, 6)", x.rest(0, 6), 1);
        Check.due("free: thing(0, 0)", x.thing(0, 0), 60);
    }

    private static void leavingCloths() {
        // It slides from under both of its cloths but one; that is no event of theirs.
        ChairDen x = Check.den("thing 27 1 20 1 9; cloth 27 1 1 1 1; cloth 27 2 1 1 9; cloth 26 1 2 1 9;"
            + "hold 0 0 trapped; hold 1 0 peg; hold 2 0 tied;");
        Check.due("thing(0, 8)", x.thing(0, 8), 0);
        Check.due("rest(0, 3)", x.rest(0, 3), 1);
        Check.due("event(0, 0)", x.event(0, 0), 2);
        Check.due("event(1, 0)", x.event(1, 0), ChairDen.NONE);
        Check.due("thing(0, 0)", x.thing(0, 0), 35);
        Check.due("hold(0, 4)", x.hold(0, 4), 0);
        Check.due("hold(1, 4)", x.hold(1, 4), 1);
        Check.due("hold(2, 4)", x.hold(2, 4), 0);
        Check.due("count(3)", x.count(3), 1);
        Check.due("fasten(0, 1, 0)", x.fasten(0, 1, 0), ChairDen.NOT);
        Check.due("gives(0, 0)", x.gives(0, 0), ChairDen.NOT);
        Check.due("fasten(1, 3, 0)", x.fasten(1, 3, 0), 1);
    }

    private static void rounds() {
        // A bump lasts for the first round alone: the second hold stays.
        ChairDen x = Check.den("thing 0 1 99 99 9; cloth 0 1 1 1 1; cloth 0 1 1 1 1; hold 0 0 peg; hold 1 0 peg;");
        Check.due("rest(0, 41)", x.rest(0, 41), 1);
        Check.due("hold(0, 4)", x.hold(0, 4), 0);
        Check.due("hold(1, 4)", x.hold(1, 4), 1);
        Check.due("rest(0, 41) again", x.rest(0, 41), 1);
        Check.due("event(0, 1)", x.event(0, 1), 1);
        // One gives, the next has all to draw and gives too, and then nothing is left.
        x = Check.den("thing 0 10 99 99 9; thing 7 10 99 99 9; cloth 0 1 8 7 1; hold 0 0 peg; hold 0 1 peg;");
        Check.due("stands()", x.stands(), 1);
        Check.due("hold(0, 5)", x.hold(0, 5), 21);
        Check.due("rest(0, 20)", x.rest(0, 20), 2);
        Check.due("event(0, 1)", x.event(0, 1), 0);
        Check.due("event(1, 0)", x.event(1, 0), 0);
        Check.due("event(1, 1)", x.event(1, 1), 1);
        Check.due("count(3)", x.count(3), 0);
        // What is not looked at: b, without a thing.
        Check.due("rest(-1, 4000)", x.rest(-1, 4000), 0);
        Check.due("count(5)", x.count(5), 0);
        Check.due("event(0, 0)", x.event(0, 0), ChairDen.NONE);
    }

    private static void order() {
        // Gives before tips, tips before slides, and of each the least.
        String all = "thing 3 10 9 0 1; thing 4 10 9 0 1; cloth 3 1 1 9 1; cloth 4 1 2 9 1; hold 1 1 laid; hold 0 0 peg;";
        ChairDen x = Check.den(all);
        Check.due("rest(0, 50)", x.rest(0, 50), 1);
        Check.due("event(0, 0)", x.event(0, 0), 0);
        Check.due("event(0, 1)", x.event(0, 1), 0);
        // The bump was over with that round, so the peg holds.
        Check.due("hold(1, 4)", x.hold(1, 4), 1);
        x = Check.den(all);
        Check.due("fasten(0, 4, 0)", x.fasten(0, 4, 0), 0);
        Check.due("rest(0, 30)", x.rest(0, 30), 60);
        Check.due("first, bumped: event(0, 0)", x.event(0, 0), 1);
        Check.due("first, bumped: event(0, 1)", x.event(0, 1), 0);
        Check.due("then: event(1, 0)", x.event(1, 0), 1);
        Check.due("then: event(1, 1)", x.event(1, 1), 1);
        // It lies now, and its cloth draws no less: it slides to and fro.
        Check.due("then: event(2, 0)", x.event(2, 0), 2);
        Check.due("then: event(2, 1)", x.event(2, 1), 1);
        Check.due("then: event(3, 0)", x.event(3, 0), 2);
    }

    private static void bearing() {
        ChairDen x = Check.den("thing 0 10 50 50 5; thing 9 1 1 1 1; cloth 0 1 8 1 1; hold 0 0 peg;");
        Check.due("stands()", x.stands(), 1);
        Check.due("bears(0, 18)", x.bears(0, 18), 1);
        Check.due("bears(0, 19)", x.bears(0, 19), 0);
        Check.due("weakest(0)", x.weakest(0), 19);
        Check.due("bears(1, 0)", x.bears(1, 0), 1);
        Check.due("bears(1, 1)", x.bears(1, 1), 0);
        Check.due("weakest(1)", x.weakest(1), 1);
        // What is tried changes nothing, the events neither.
        Check.due("rest(1, 1)", x.rest(1, 1), 1);
        Check.due("event(0, 0)", x.event(0, 0), 2);
        Check.due("bears(0, 999)", x.bears(0, 999), 0);
        Check.due("weakest(0)", x.weakest(0), 19);
        Check.due("count(5)", x.count(5), 1);
        Check.due("event(0, 1)", x.event(0, 1), 1);
        Check.due("count(3)", x.count(3), 1);
        Check.due("thing(0, 5)", x.thing(0, 5), 0);
        // A thing that nothing moves; the strongest bump that is; one that cannot stand at all.
        x = Check.den("thing 56 1 99 0 9; thing 57 20 99 99 9; cloth 57 1 1 1 1; hold 0 1 trapped;");
        Check.due("weakest(0)", x.weakest(0), 892);
        Check.due("rest(0, 892)", x.rest(0, 892), 1);
        Check.due("weakest(0), lying", x.weakest(0), ChairDen.NONE);
        Check.due("bears(0, 999), lying", x.bears(0, 999), 1);
        x = Check.den("thing 0 1 99 99 9; thing 1 20 1 99 1; cloth 1 1 7 1 1; hold 0 1 tied;");
        Check.due("falling: stands()", x.stands(), 0);
        Check.due("falling: weakest(0)", x.weakest(0), 0);
        Check.due("falling: weakest(1)", x.weakest(1), 0);
        Check.due("falling: bears(0, 0)", x.bears(0, 0), 0);
    }

    private static void refusals() {
        ChairDen x = Check.den("thing 0 10 50 50 5; cloth 0 1 8 1 1; hold 0 0 peg;");
        for (int bad : new int[] {-2, 1, 8, Integer.MIN_VALUE, Integer.MAX_VALUE}) {
            Check.due("rest(" + bad + ", 1000)", x.rest(bad, 1000), ChairDen.UNKNOWN);
            Check.due("bears(" + bad + ", 1000)", x.bears(bad, 1000), ChairDen.UNKNOWN);
            Check.due("gives(" + bad + ", 1000)", x.gives(bad, 1000), ChairDen.UNKNOWN);
            Check.due("weakest(" + bad + ")", x.weakest(bad), ChairDen.UNKNOWN);
        }
        Check.due("bears(-1, 0)", x.bears(-1, 0), ChairDen.UNKNOWN);
        Check.due("weakest(-1)", x.weakest(-1), ChairDen.UNKNOWN);
        Check.due("gives(-1, 0)", x.gives(-1, 0), ChairDen.UNKNOWN);
        for (int bad : new int[] {-1, 1000, Integer.MIN_VALUE, Integer.MAX_VALUE}) {
            Check.due("rest(0, " + bad + ")", x.rest(0, bad), ChairDen.OUTSIDE);
            Check.due("bears(0, " + bad + ")", x.bears(0, bad), ChairDen.OUTSIDE);
            Check.due("gives(0, " + bad + ")", x.gives(0, bad), ChairDen.OUTSIDE);
            Check.due("rest(-1, " + bad + ")", x.rest(-1, bad), 0);
        }
        for (int bad : new int[] {-1, 2, Integer.MIN_VALUE, Integer.MAX_VALUE}) {
            Check.due("event(0, " + bad + ")", x.event(0, bad), ChairDen.OUTSIDE);
            Check.due("event(-1, " + bad + ")", x.event(-1, bad), ChairDen.OUTSIDE);
        }
        Check.due("event(-1, 0)", x.event(-1, 0), ChairDen.NONE);
        Check.due("event(MIN, 1)", x.event(Integer.MIN_VALUE, 1), ChairDen.NONE);
        Check.due("event(0, 1)", x.event(0, 1), ChairDen.NONE);
        Check.due("rest(0, 999)", x.rest(0, 999), 1);
        Check.due("gives(0, 1000), not holding", x.gives(0, 1000), ChairDen.OUTSIDE);
        Check.due("gives(0, 0), not holding", x.gives(0, 0), ChairDen.NOT);
        Check.due("event(1, 0)", x.event(1, 0), ChairDen.NONE);
    }
}
