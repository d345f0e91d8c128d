/** Promises 1 to 6: a new object, texts, dens, wants, faults, counts. */
public final class DenTest {
    private static final String THING = "thing 0 10 50 50 5;";
    private static final String CLOTH = "cloth 0 1 8 1 1;";
    private static final String BELOW = "thing 8 18 50 50 5;";

    private DenTest() {
    }

    public static void main(String[] args) {
        newObject();
        feeding();
        dens();
        denBehindDen();
        faultsOfThings();
        faultsOfCloths();
        faultsOfHolds();
        faultsOfLightAndBar();
        tooMany();
        blanksAndSides();
        wants();
        wantsRefused();
        faultPlace();
        counts();
        Check.end();
    }

    private static void newObject() {
        ChairDen x = new ChairDen();
        for (int what = 0; what <= 6; what++) {
            Check.due("new: count(" + what + ")", x.count(what), 0);
        }
        Check.due("new: fault()", x.fault(), ChairDen.NONE);
        Check.due("new: height(0)", x.height(0), ChairDen.NONE);
        Check.due("new: light(63)", x.light(63), 60);
        Check.due("new: rest(-1, 0)", x.rest(-1, 0), 0);
        Check.due("new: seed(0)", x.seed(0), 0);
        Check.due("new: thing(0, 0)", x.thing(0, 0), ChairDen.UNKNOWN);
        Check.due("new: den()", x.den(), 0);
        Check.due("new: goBack(0)", x.goBack(0), ChairDen.NOT);
    }

    private static void feeding() {
        ChairDen x = new ChairDen();
        Check.due("feed(0, 1)", x.feed(0, 1), ChairDen.OUTSIDE);
        Check.due("feed(9, 1)", x.feed(9, 1), ChairDen.OUTSIDE);
        Check.due("feed(-1, 1)", x.feed(-1, 1), ChairDen.OUTSIDE);
        Check.due("count(6)", x.count(6), 0);
        // The lowest bytes alone, the highest of these first: "ba" is in front of "r".
        Check.due("feed(2, ..ba)", x.feed(2, 0x7878787878786261L), 2);
        Check.due("feed(1, r)", x.feed(1, 'r'), 3);
        Check.due("den() of 'bar'", x.den(), -11);
        Check.due("fault() of 'bar'", x.fault(), 3);
        for (int i = 1; i <= 62; i++) {
            Check.due("feed 8 blanks", x.feed(8, 0x2020202020202020L), 8 * i);
        }
        Check.due("feed(5) beyond 500", x.feed(5, 0), ChairDen.FULL);
        Check.due("feed(9) beyond 500", x.feed(9, 0), ChairDen.OUTSIDE);
        Check.due("feed(4) to 500", x.feed(4, 0x20202020L), 500);
        Check.due("feed(1) beyond 500", x.feed(1, 32), ChairDen.FULL);
        Check.due("count(6)", x.count(6), 500);
        Check.due("den() of 500 blanks", x.den(), 0);
        Check.due("count(6)", x.count(6), 0);
        Check.due("feed again", x.feed(1, -1), 1);
        Check.due("den() of byte 255", x.den(), -11);
    }

    private static void dens() {
        ChairDen x = Check.den(THING + CLOTH + "hold 0 0 peg;");
        Check.feed(x, "room 0");
        Check.due("want()", x.want(), 0);
        x.seed(5);
        x.keep(1);
        Check.due("rest(0, 19)", x.rest(0, 19), 1);
        // With a fault all but the text is as it was.
        Check.feed(x, "thing 5");
        Check.due("den() with a fault", x.den(), -11);
        Check.due("fault()", x.fault(), 7);
        Check.due("count(0)", x.count(0), 1);
        Check.due("count(2)", x.count(2), 1);
        Check.due("count(4)", x.count(4), 1);
        Check.due("count(5)", x.count(5), 1);
        Check.due("count(6)", x.count(6), 0);
        Check.due("thing(0, 5)", x.thing(0, 5), 1);
        Check.due("goBack(1)", x.goBack(1), 1);
        Check.due("goBack(0)", x.goBack(0), ChairDen.NOT);
        // Without one: no events, no images; wants and the seed stay.
        Check.feed(x, THING + "thing 9 3 4 5 6;" + CLOTH + "hold 0 0 laid;");
        Check.due("den()", x.den(), 1);
        Check.due("count(0)", x.count(0), 2);
        Check.due("count(4)", x.count(4), 1);
        Check.due("count(5)", x.count(5), 0);
        Check.due("event(0, 0)", x.event(0, 0), ChairDen.NONE);
        Check.due("thing(0, 5)", x.thing(0, 5), 0);
        Check.due("hold(0, 2)", x.hold(0, 2), 0);
        Check.due("goBack(1)", x.goBack(1), ChairDen.NOT);
        Check.due("seed(1)", x.seed(1), 5);
        Check.due("den() of nothing", x.den(), 0);
        Check.due("count(0)", x.count(0), 0);
        Check.due("count(1)", x.count(1), 0);
    }

    /** Of the den before nothing is left, though the things stand as they stood in it. */
    private static void denBehindDen() {
        ChairDen x = Check.den(THING + CLOTH + "light 9 1; bar 0;" + BELOW + "cloth 8 1 8 1 1;"
            + "hold 1 1 peg;");
        Check.due("stands()", x.stands(), 1);
        Check.due("light(0)", x.light(0), 7);
        Check.due("most(5, 1, 1, -1)", x.most(5, 1, 1, -1), 7);
        Check.feed(x, THING + "cloth 0 2 8 1 2;" + BELOW + "cloth 8 1 4 1 1; light 30 1; hold 0 0 peg;");
        Check.due("den()", x.den(), 1);
        Check.due("again: hold(0, 5)", x.hold(0, 5), 9);
        Check.due("again: hold(0, 6)", x.hold(0, 6), 10);
        Check.due("again: light(0)", x.light(0), 28);
        Check.due("again: most(5, 1, 1, -1)", x.most(5, 1, 1, -1), 3);
        Check.due("again: bears(0, 999)", x.bears(0, 999), 0);
        Check.feed(x, THING + "cloth 0 1 8 1 1;" + BELOW + "hold 0 0 peg;");
        Check.due("den()", x.den(), 1);
        Check.due("once more: hold(0, 5)", x.hold(0, 5), 7);
        Check.due("once more: most(5, 1, 1, -1)", x.most(5, 1, 1, -1), 5);
        Check.due("once more: light(63)", x.light(63), 60);
        Check.due("once more: light(7)", x.light(7), 50);
    }

    private static void faultsOfThings() {
        Check.denFine("thing 63 20 99 99 9;", 0);
        Check.denFine("thing 00 01 01 00 01;", 0);
        Check.denFault("thing 64 1 1 0 1;", 2, 6);
        Check.denFault("thing 0 0 1 0 1;", 2, 8);
        Check.denFault("thing 0 21 1 0 1;", 2, 8);
        Check.denFault("thing 0 1 0 0 1;", 2, 10);
        Check.denFault("thing 0 1 1 100 1;", 2, 12);
        Check.denFault("thing 0 1 1 0 0;", 2, 14);
        Check.denFault("thing 0 1 1 0 10;", 2, 14);
        Check.denFault("thing 001 1 1 0 1;", 2, 6);
        Check.denFault("thing 0 1 1 0;", 1, 13);
        Check.denFault("thing 0 1 1 0 1 1;", 1, 16);
        Check.denFault("thing 0 1 1 0 1 100;", 1, 16);
        Check.denFault("thing 0 1 1 0 1", 1, 15);
        Check.denFault("thing 0 1 1 0 1   ", 1, 18);
        Check.denFault("thing", 1, 5);
        Check.denFault("thing laid 1 1 0 1;", 1, 6);
        Check.denFault("things 0 1 1 0 1;", 1, 0);
        Check.denFault("thin 0 1 1 0 1;", 1, 0);
        Check.denFault("shing 0 1 1 0 1;", 1, 0);
        Check.denFault("thinz 0 1 1 0 1;", 1, 0);
        Check.denFault("thingz 0 1 1 0 1;", 1, 0);
        Check.denFault("thinga 0 1 1 0 1;", 1, 0);
        Check.denFault("Thing 0 1 1 0 1;", 1, 0);
        Check.denFault("thing0 1 1 0 1;thing0 1 1 0 1;", 3, 20);
        Check.denFault("thing 5 1 1 0 1;thing 05 1 1 0 1;", 3, 22);
        // The first fault counts, wherever the second is.
        Check.denFault("thing 5 1 1 0 1;thing 5 0 1 0 1;", 3, 22);
        Check.denFault("thing 64 0 1 0 1;", 2, 6);
    }

    private static void faultsOfCloths() {
        Check.denFine("cloth 0 8 8 9 9;", 0);
        Check.denFine("cloth 63 1 1 1 1;", 0);
        Check.denFault("cloth 64 1 1 1 1;", 2, 6);
        Check.denFault("cloth 0 0 1 1 1;", 2, 8);
        Check.denFault("cloth 0 9 1 1 1;", 2, 8);
        Check.denFault("cloth 0 1 0 1 1;", 2, 10);
        Check.denFault("cloth 0 1 9 1 1;", 2, 10);
        Check.denFault("cloth 0 1 1 0 1;", 2, 12);
        Check.denFault("cloth 0 1 1 10 1;", 2, 12);
        Check.denFault("cloth 0 1 1 1 0;", 2, 14);
        Check.denFault("cloth 0 1 1 1 10;", 2, 14);
        Check.denFault("cloth 1 1 8 1 1;", 5, 10);
        Check.denFault("cloth 8 8 1 1 1;", 5, 10);
        Check.denFault("cloth 62 1 03 1 1;", 5, 11);
        // Of two at one place the least: the bounds are ahead of the floor, and what may not stand ahead of both.
        Check.denFault("cloth 63 1 9 1 1;", 2, 11);
        Check.denFault("cloth 63 2 ;", 1, 11);
        Check.denFault("cloth 8 8 peg;", 1, 10);
    }

    private static void faultsOfHolds() {
        String two = THING + "thing 9 1 1 0 1;" + CLOTH;
        int n = two.length();
        Check.denFine(two + "hold 0 0 laid;", 1);
        Check.denFine(two + "hold 0 0 peg;", 1);
        Check.denFine(two + "hold 0 0 book 1;", 1);
        Check.denFine(two + "hold 0 0 book99;", 1);
        Check.denFine(two + "hold 0 0 tied;", 1);
        Check.denFine(two + "hold 0 0trapped;", 1);
        Check.denFault(two + "hold 0 0 book;", 1, n + 13);
        Check.denFault(two + "hold 0 0 book 0;", 2, n + 14);
        Check.denFault(two + "hold 0 0 book 100;", 2, n + 14);
        Check.denFault(two + "hold 0 0 peg 1;", 1, n + 13);
        Check.denFault(two + "hold 0 0 pegs;", 1, n + 9);
        Check.denFault(two + "hold 0 0;", 1, n + 8);
        Check.denFault(two + "hold 0 0 5;", 1, n + 9);
        Check.denFault(two + "hold 1 0 peg;", 2, n + 5);
        Check.denFault(two + "hold 0 2 peg;", 2, n + 7);
        Check.denFault(two + "hold 0 99 peg;", 2, n + 7);
        Check.denFault(two + "hold 0 1 peg;", 3, n + 7);
        Check.denFault(two + "hold 0 0 peg;hold 0 00 laid;", 3, n + 20);
        Check.denFine(two + CLOTH + "hold 0 0 peg;hold 1 0 peg;", 2);
        Check.denFault(THING + "hold 0 0 peg;" + CLOTH, 2, 24);
        Check.denFault(CLOTH + "hold 0 0 peg;" + THING, 2, 23);
    }

    private static void faultsOfLightAndBar() {
        Check.denFine("light 0 1;", 0);
        Check.denFine("light 99 20;", 0);
        Check.denFault("light 100 1;", 2, 6);
        Check.denFault("light 0 0;", 2, 8);
        Check.denFault("light 0 21;", 2, 8);
        Check.denFault("light 60;", 1, 8);
        Check.denFault("light 60 10;light 60 10;", 3, 12);
        Check.denFault("light 60 10; light", 3, 13);
        String one = THING + CLOTH;
        int n = one.length();
        Check.denFine(one + "bar 0;", 0);
        Check.denFine(one + "bar 0;bar 0;", 0);
        Check.denFault("bar 0;", 2, 4);
        Check.denFault(one + "bar 1;", 2, n + 4);
        Check.denFault(one + "bar;", 1, n + 3);
        Check.denFault(one + "bar 0;hold 0 0 peg;", 3, n + 13);
        Check.denFault(one + "hold 0 0 peg;bar 0;", 3, n + 17);
    }

    private static void tooMany() {
        StringBuilder things = new StringBuilder();
        for (int t = 0; t < 8; t++) {
            things.append("thing ").append(t).append(" 1 1 0 1;");
        }
        Check.denFine(things.toString(), 0);
        Check.denFault(things + " thing 8 1 1 0 1;", 4, things.length() + 1);
        Check.denFault(things + "thing", 4, things.length());
        String cloths = CLOTH + CLOTH + CLOTH;
        Check.denFine(cloths, 0);
        Check.denFault(cloths + CLOTH, 4, cloths.length());
        StringBuilder holds = new StringBuilder(things + cloths);
        for (int k = 0; k < 12; k++) {
            holds.append("hold ").append(k / 8).append(' ').append(k % 8).append("peg;");
        }
        Check.denFine(holds.toString(), 12);
        Check.denFault(holds + "hold 2 7 peg;", 4, holds.length());
        // "00" is one number of two figures, and the thing is missing.
        Check.denFault(things + cloths + "hold 00peg;", 1, things.length() + cloths.length() + 7);
    }

    private static void blanksAndSides() {
        Check.denFine("", 0);
        Check.denFine("    ", 0);
        Check.denFine("  thing  0   10 50 50 5  ;  cloth 0 1 8 1 1 ;hold0 0peg;  ", 1);
        Check.denFault(";", 1, 0);
        Check.denFault("  ;", 1, 2);
        Check.denFault(THING + ";", 1, THING.length());
        Check.denFault("thing 0 10 50 50 5\n;", 1, 18);
        Check.denFault("thing,0 10 50 50 5;", 1, 5);
        Check.denFault("thing -1 10 50 50 5;", 1, 6);
        Check.denFault("th ing 0 10 50 50 5;", 1, 0);
        Check.denFault("thing 0 10 505 0 5;", 2, 11);
        Check.denFault("5 thing 0 10 50 50 5;", 1, 0);
        Check.denFault("500 thing", 1, 0);
        Check.denFault("thingcloth 0 1 8 1 1;", 1, 0);
        Check.denFault("\u00e9", 1, 0);
    }

    private static void wants() {
        for (String fine : new String[] {"room 0", "room64", " room 1 high 20 dark 0 door stands ",
            "room 5high1dark99door stands", "room 3 stands", "room 3 dark 5 stands", "room 3 high 2 door"}) {
            ChairDen x = new ChairDen();
            Check.feed(x, fine);
            Check.due("want() of '" + fine + "'", x.want(), 0);
            Check.due("fault() of '" + fine + "'", x.fault(), ChairDen.NONE);
            Check.due("count(6)", x.count(6), 0);
        }
        Check.wantFault("", 1, 0);
        Check.wantFault("   ", 1, 3);
        Check.wantFault("room", 1, 4);
        Check.wantFault("rooms 5", 1, 0);
        Check.wantFault("5", 1, 0);
        Check.wantFault("room 65", 2, 5);
        Check.wantFault("room 005", 2, 5);
        Check.wantFault("room 5 high 0", 2, 12);
        Check.wantFault("room 5 high 21", 2, 12);
        Check.wantFault("room 5 high", 1, 11);
        Check.wantFault("room 5 dark 100", 2, 12);
        Check.wantFault("room 5 dark door", 1, 12);
        Check.wantFault("room 5 dark 5 high 5", 1, 14);
        Check.wantFault("room 5 stands door", 1, 14);
        Check.wantFault("room 5 doorstands", 1, 7);
        Check.wantFault("room 5 door door", 1, 12);
        Check.wantFault("room 5;", 1, 6);
        Check.wantFault("room 5 6", 1, 7);
        Check.wantFault("room 5 stands room 5", 1, 14);
    }

    private static void wantsRefused() {
        ChairDen x = new ChairDen();
        Check.feed(x, "room 5                                                      ");
        Check.due("count(6)", x.count(6), 60);
        Check.due("want() of 60 bytes", x.want(), 0);
        Check.feed(x, "room 5                                                       ");
        Check.due("want() of 61 bytes", x.want(), ChairDen.NOT);
        Check.due("count(6)", x.count(6), 61);
        Check.due("den() of it", x.den(), -11);
        for (int w = 1; w < 4; w++) {
            Check.feed(x, "room 6");
            Check.due("want()", x.want(), w);
        }
        Check.due("count(4)", x.count(4), 4);
        // A fault of a text that is refused is not looked at.
        Check.feed(x, "mush 7");
        Check.due("want() of a fifth", x.want(), ChairDen.FULL);
        Check.due("fault()", x.fault(), ChairDen.NONE);
        Check.due("count(6)", x.count(6), 6);
        Check.feed(x, "                                                            ");
        Check.due("want() of a fifth, too long", x.want(), ChairDen.NOT);
        Check.due("count(6)", x.count(6), 66);
    }

    private static void faultPlace() {
        ChairDen x = new ChairDen();
        Check.feed(x, "bar 7;");
        Check.due("den()", x.den(), -12);
        Check.due("fault()", x.fault(), 4);
        Check.feed(x, "room 3");
        Check.due("fault()", x.fault(), 4);
        Check.due("want()", x.want(), 0);
        Check.due("fault()", x.fault(), ChairDen.NONE);
        Check.feed(x, "room 66");
        Check.due("want()", x.want(), -12);
        Check.due("fault()", x.fault(), 5);
        Check.due("want()", x.want(), -11);
        Check.due("fault()", x.fault(), 0);
        Check.due("den()", x.den(), 0);
        Check.due("fault()", x.fault(), ChairDen.NONE);
    }

    private static void counts() {
        ChairDen x = Check.den(THING + "thing 1 5 5 5 5;" + CLOTH + CLOTH + CLOTH + "hold 0 0 peg;hold 2 1 peg;hold 1 1 tied;");
        Check.due("count(0)", x.count(0), 2);
        Check.due("count(1)", x.count(1), 3);
        Check.due("count(2)", x.count(2), 3);
        Check.due("count(3)", x.count(3), 3);
        Check.due("rest(0, 100)", x.rest(0, 100) > 0 ? 1 : 0, 1);
        Check.due("event(0, 0)", x.event(0, 0), 0);
        Check.due("count(3)", x.count(3), 2);
        Check.due("count(-1)", x.count(-1), ChairDen.OUTSIDE);
        Check.due("count(7)", x.count(7), ChairDen.OUTSIDE);
    }
}
