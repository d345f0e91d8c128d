/** Every boundary case of what hangs, gives, tips and slides: promises 7 to 17, and 'Terms' 2. */
public final class EdgeRestTest {
    private static final int LOW = Edge.LOW, HIGH = Edge.HIGH;
    private static final int UNKNOWN = ChairDen.UNKNOWN, OUTSIDE = ChairDen.OUTSIDE, NOT = ChairDen.NOT, NONE = ChairDen.NONE;

    private EdgeRestTest() {
    }

    public static void main(String[] args) {
        steps();
        tops();
        hangsAtLeast();
        leansOn();
        clothByCloth();
        drawsAndLoads();
        pulls();
        likeARefusal();
        bumpsHoldsToo();
        givesLaid();
        givesOthers();
        givesWithDraw();
        bookLiesDown();
        tips();
        tipsByPull();
        slides();
        slidesByAllThatPresses();
        slidesTheWay();
        slidesDown();
        slidesWhereNoThingIs();
        slidesOut();
        leastFirst();
        kindsFirst();
        sixtyRounds();
        firstRoundAlone();
        thingBounds();
        holdBounds();
        hangsBounds();
        leansBounds();
        heightBounds();
        givesBounds();
        restBounds();
        eventBounds();
        standsEdges();
        bearsBounds();
        weakestEdges();
        Edge.end();
    }

    /** A thing in the middle of the floor, held under a cloth of its own cell alone: DRAW 0, LOAD G. */
    private static ChairDen single(int w, int r, int g, String how) {
        return Check.den("thing 27 1 " + w + " " + r + " 9; cloth 27 1 1 " + g + " 1; hold 0 0 " + how + ";");
    }

    /** A thing in the corner that holds a row of eight: DRAW 7 times G, LOAD 8 times G. */
    private static ChairDen line(int r, int g, String how) {
        return Check.den("thing 0 10 99 " + r + " 9; cloth 0 1 8 " + g + " 1; hold 0 0 " + how + ";");
    }

    private static void event(ChairDen x, int i, int what, int which) {
        Edge.due("event(" + i + ", 0)", x.event(i, 0), what);
        Edge.due("event(" + i + ", 1)", x.event(i, 1), which);
    }

    private static void steps() {
        Edge.of("Terms 1", "STEPS between two CELLS: the differences of rows and of places in them, together");
        ChairDen x = Check.den("thing 8 20 99 99 9; cloth 0 8 8 1 1; hold 0 0 trapped;");
        Edge.due("hangs(0, 7), a row up and seven on", x.hangs(0, 7), 12);
        Edge.due("hangs(0, 15)", x.hangs(0, 15), 13);
        Edge.due("hangs(0, 16)", x.hangs(0, 16), 19);
        Edge.due("hangs(0, 63)", x.hangs(0, 63), 7);
        Edge.due("hangs(0, 8), no step", x.hangs(0, 8), 20);
    }

    private static void tops() {
        Edge.of("Terms 1", "TOP of a CELL: H of the THING there (1, if it lies), 0 without one");
        ChairDen x = Check.den("thing 2 20 9 99 1; thing 3 1 9 99 1; cloth 0 1 5 1 1;");
        Edge.due("hangs(0, 2)", x.hangs(0, 2), 20);
        Edge.due("hangs(0, 3)", x.hangs(0, 3), 1);
        Edge.due("hangs(0, 4)", x.hangs(0, 4), 0);
        Edge.due("rest(0, 1)", x.rest(0, 1), 1);
        Edge.due("hangs(0, 2), lying", x.hangs(0, 2), 1);
        Edge.due("height(2), lying", x.height(2), 1);
        Edge.due("thing(0, 1), lying", x.thing(0, 1), 20);
    }

    private static void hangsAtLeast() {
        Edge.of("Terms 2", "HANGS: TOP of the CELL at least, 0 at least");
        ChairDen x = Check.den("thing 0 3 99 99 9; thing 1 1 9 9 9; thing 2 2 9 9 9; cloth 0 1 8 1 1; hold 0 0 peg;");
        int[] due = {3, 2, 2, 0, 0, 0, 0, 0};
        for (int c = 0; c < 8; c++) {
            Edge.due("hangs(0, " + c + ")", x.hangs(0, c), due[c]);
        }
        // By the steepest sag of the lowest thing: far below the floor.
        x = Check.den("thing 0 1 99 99 9; cloth 0 8 8 9 9; hold 0 0 peg;");
        Edge.due("hangs(0, 0)", x.hangs(0, 0), 1);
        Edge.due("hangs(0, 1)", x.hangs(0, 1), 0);
        Edge.due("hangs(0, 63)", x.hangs(0, 63), 0);
        Edge.due("leans(0, 63)", x.leans(0, 63), NONE);
        Edge.due("hold(0, 6)", x.hold(0, 6), 9);
    }

    private static void leansOn() {
        Edge.of("Terms 2", "LEANS: on none, if TOP or 0 is more than all these (or there are none)");
        // 7 by the hold in the cell of the second thing: as much is not more.
        ChairDen x = Check.den("thing 0 10 99 99 9; thing 3 7 9 9 9; cloth 0 1 4 1 1; hold 0 0 peg;");
        Edge.due("TOP as much: leans(0, 3)", x.leans(0, 3), 0);
        Edge.due("TOP as much: hold(0, 6)", x.hold(0, 6), 4);
        x = Check.den("thing 0 10 99 99 9; thing 3 8 9 9 9; cloth 0 1 4 1 1; hold 0 0 peg;");
        Edge.due("TOP more: leans(0, 3)", x.leans(0, 3), NONE);
        Edge.due("TOP more: hangs(0, 3)", x.hangs(0, 3), 8);
        Edge.due("TOP more: hold(0, 6)", x.hold(0, 6), 3);
        // 0 by the hold, and below 0.
        x = Check.den("thing 0 3 99 99 9; cloth 0 1 5 1 1; hold 0 0 peg;");
        Edge.due("as much as 0: leans(0, 3)", x.leans(0, 3), 0);
        Edge.due("below 0: leans(0, 4)", x.leans(0, 4), NONE);
        Edge.due("below 0: hold(0, 6)", x.hold(0, 6), 4);
        x = Check.den("thing 0 3 99 99 9; cloth 0 1 5 1 1;");
        Edge.due("no holds: leans(0, 0)", x.leans(0, 0), NONE);
        Edge.due("no holds: leans(0, 4)", x.leans(0, 4), NONE);
        Edge.of("Terms 2", "LEANS: of like ones the least");
        x = Check.den("thing 0 9 99 99 9; thing 2 9 99 99 9; cloth 0 1 3 1 1; hold 0 1 peg; hold 0 0 peg;");
        Edge.due("like ones: leans(0, 1)", x.leans(0, 1), 0);
        Edge.due("its own cell: leans(0, 0)", x.leans(0, 0), 1);
        x = Check.den("thing 0 9 99 99 9; thing 2 10 99 99 9; cloth 0 1 3 1 1; hold 0 0 peg; hold 0 1 peg;");
        Edge.due("the second is higher: leans(0, 1)", x.leans(0, 1), 1);
        Edge.due("the second is higher: leans(0, 0)", x.leans(0, 0), 0);
        x = Check.den("thing 0 9 99 99 9; thing 2 11 99 99 9; cloth 0 1 3 1 1; hold 0 0 peg; hold 0 1 peg;");
        Edge.due("by two: leans(0, 0), of like ones", x.leans(0, 0), 0);
        Edge.of("Terms 2", "over its HOLDS that hold");
        x = Check.den("thing 0 9 99 99 9; thing 2 9 99 99 9; cloth 0 1 3 1 1; hold 0 0 peg; hold 0 1 peg;");
        Edge.due("rest(0, 99)", x.rest(0, 99), 1);
        Edge.due("one gave: leans(0, 0)", x.leans(0, 0), NONE);
        Edge.due("one gave: hangs(0, 0), on the thing", x.hangs(0, 0), 9);
        Edge.due("one gave: leans(0, 1)", x.leans(0, 1), 1);
        Edge.due("one gave: hangs(0, 1)", x.hangs(0, 1), 8);
    }

    private static void clothByCloth() {
        Edge.of("Terms 2", "(Each CLOTH for itself.)");
        ChairDen x = Check.den("thing 0 9 99 99 9; cloth 0 1 3 1 1; cloth 0 1 3 2 3; cloth 1 1 3 1 1; hold 0 0 peg; hold 1 0 peg;");
        Edge.due("hangs(0, 2)", x.hangs(0, 2), 7);
        Edge.due("hangs(1, 2)", x.hangs(1, 2), 3);
        Edge.due("hangs(2, 2)", x.hangs(2, 2), 0);
        Edge.due("leans(1, 2)", x.leans(1, 2), 1);
        Edge.due("leans(2, 2)", x.leans(2, 2), NONE);
        Edge.due("hold(0, 5)", x.hold(0, 5), 2);
        Edge.due("hold(1, 5)", x.hold(1, 5), 4);
    }

    private static void drawsAndLoads() {
        Edge.of("Terms 2", "DRAW: down less up, along less back, each CELL by -1, 0, 1 (its own: 0 0); the greater of both without sign");
        String den = "thing 27 9 99 99 9; cloth # 1 1; hold 0 0 trapped;";
        String[] cloths = {"27 1 1", "18 3 3", "27 1 5", "24 1 4", "27 5 1", "3 4 1", "27 2 3", "10 3 2", "3 5 5"};
        int[] draws = {0, 0, 4, 3, 4, 3, 4, 4, 20};
        int[] loads = {1, 9, 5, 4, 5, 4, 6, 6, 25};
        for (int i = 0; i < cloths.length; i++) {
            ChairDen x = Check.den(den.replace("#", cloths[i]));
            Edge.due("cloth " + cloths[i] + ": hold(0, 5)", x.hold(0, 5), draws[i]);
            Edge.due("cloth " + cloths[i] + ": hold(0, 6)", x.hold(0, 6), loads[i]);
            x = Check.den(den.replace("# 1", cloths[i] + " 9"));
            Edge.due("cloth " + cloths[i] + " 9: hold(0, 5)", x.hold(0, 5), 9 * draws[i]);
            Edge.due("cloth " + cloths[i] + " 9: hold(0, 6)", x.hold(0, 6), 9 * loads[i]);
        }
    }

    private static void pulls() {
        Edge.of("Terms 2", "PULL: the sums of DRAW of all HOLDS on it that hold, rows and places by themselves; SIZE: the greater without sign");
        // Down by 4, along by 6, and up by 3: 1 and 6.
        ChairDen x = Check.den("thing 27 9 99 99 9; cloth 27 3 1 2 1; cloth 27 1 3 3 1; cloth 19 2 1 3 1;"
            + "hold 0 0 trapped; hold 1 0 peg; hold 2 0 trapped;");
        Edge.due("thing(0, 6)", x.thing(0, 6), 1);
        Edge.due("thing(0, 7)", x.thing(0, 7), 6);
        Edge.due("thing(0, 8)", x.thing(0, 8), 6);
        Edge.due("rest(0, 35)", x.rest(0, 35), 1);
        Edge.due("one gave: thing(0, 7)", x.thing(0, 7), 0);
        Edge.due("one gave: thing(0, 8)", x.thing(0, 8), 1);
        x = Check.den("thing 27 9 99 99 9; cloth 11 3 1 2 1; cloth 25 1 3 3 1; hold 0 0 trapped; hold 1 0 peg;");
        Edge.due("up: thing(0, 6)", x.thing(0, 6), -4);
        Edge.due("back: thing(0, 7)", x.thing(0, 7), -6);
        Edge.due("without sign: thing(0, 8)", x.thing(0, 8), 6);
    }

    private static void likeARefusal() {
        Edge.of("Promise 7", "(PULLS may be as a refusal is.)");
        ChairDen x = Check.den("thing 63 20 99 99 9; cloth 0 8 8 9 1; cloth 0 8 8 8 1; cloth 1 8 7 1 1;"
            + "hold 0 0 trapped; hold 1 0 trapped; hold 2 0 trapped;");
        Edge.due("thing(0, 6)", x.thing(0, 6), -1001);
        Edge.due("thing(0, 7)", x.thing(0, 7), -1000);
        Edge.due("thing(0, 8)", x.thing(0, 8), 1001);
        x = Check.den("thing 1 9 99 99 9; cloth 0 1 2 1 1; hold 0 0 trapped;");
        Edge.due("as NONE is: thing(0, 7)", x.thing(0, 7), -1);
    }

    private static void bumpsHoldsToo() {
        Edge.of("Terms 2", "A bump at a THING bumps it and all HOLDS on it");
        ChairDen x = Check.den("thing 0 9 99 99 9; thing 9 9 99 99 9; cloth 0 1 1 1 1; cloth 9 1 1 1 1; cloth 9 1 1 1 1;"
            + "hold 0 0 peg; hold 1 1 tied; hold 2 1 peg;");
        Edge.due("bears(0, 40)", x.bears(0, 40), 1);
        Edge.due("bears(0, 41)", x.bears(0, 41), 0);
        Edge.due("rest(1, 41)", x.rest(1, 41), 1);
        event(x, 0, 0, 2);
        Edge.due("bears(1, 80)", x.bears(1, 80), 1);
        Edge.due("rest(1, 81)", x.rest(1, 81), 1);
        event(x, 0, 0, 1);
        Edge.due("hold(0, 4), on another thing", x.hold(0, 4), 1);
    }

    /** The most that a hold bears and one more, by gives(), bears() and rest(). */
    private static void givesAt(String name, ChairDen x, int most) {
        Edge.due(name + ": gives(0, " + most + ")", x.gives(0, most), 0);
        Edge.due(name + ": gives(0, " + (most + 1) + ")", x.gives(0, most + 1), 1);
        Edge.due(name + ": bears(0, " + most + ")", x.bears(0, most), 1);
        Edge.due(name + ": bears(0, " + (most + 1) + ")", x.bears(0, most + 1), 0);
        Edge.due(name + ": weakest(0)", x.weakest(0), most + 1);
        Edge.due(name + ": rest(0, " + most + ")", x.rest(0, most), 0);
        Edge.due(name + ": hold(0, 4)", x.hold(0, 4), 1);
        Edge.due(name + ": rest(0, " + (most + 1) + ")", x.rest(0, most + 1), 1);
        event(x, 0, 0, 0);
        Edge.due(name + ": hold(0, 4), given", x.hold(0, 4), 0);
        Edge.due(name + ": hold(0, 5), given", x.hold(0, 5), 0);
        Edge.due(name + ": hold(0, 6), given", x.hold(0, 6), 0);
    }

    private static void givesLaid() {
        Edge.of("Terms 2", "GIVES, if more than: laid: LOAD times R of its THING / 10 (that cuts towards 0)");
        givesAt("9 times 99", single(99, 99, 9, "laid"), 89);
        givesAt("1 times 99", single(99, 99, 1, "laid"), 9);
        givesAt("1 times 10", single(99, 10, 1, "laid"), 1);
        givesAt("1 times 9", single(99, 9, 1, "laid"), 0);
        givesAt("2 times 9", single(99, 9, 2, "laid"), 1);
        givesAt("1 times 19", single(99, 19, 1, "laid"), 1);
        givesAt("1 times 20", single(99, 20, 1, "laid"), 2);
        givesAt("9 times 0", single(99, 0, 9, "laid"), 0);
    }

    private static void givesOthers() {
        Edge.of("Terms 2", "GIVES, if more than: peg: 40; book: twice N; tied: 80; trapped: never");
        givesAt("peg", single(99, 99, 9, "peg"), 40);
        givesAt("book 1", single(99, 99, 9, "book 1"), 2);
        givesAt("book 20", single(99, 99, 9, "book 20"), 40);
        givesAt("book 99", single(99, 99, 9, "book 99"), 198);
        givesAt("tied", single(99, 99, 9, "tied"), 80);
        ChairDen x = single(99, 99, 9, "trapped");
        Edge.due("trapped: gives(0, 999)", x.gives(0, 999), 0);
        Edge.due("trapped: rest(0, 999)", x.rest(0, 999), 1);
        event(x, 0, 1, 0);
        Edge.due("trapped: hold(0, 4)", x.hold(0, 4), 1);
    }

    private static void givesWithDraw() {
        Edge.of("Terms 2", "GIVES, if DRAW and what bumps it are, together, more than ..");
        givesAt("peg of 35", line(99, 5, "peg"), 5);
        givesAt("tied of 63", line(99, 9, "tied"), 17);
        givesAt("book of 7", line(99, 1, "book 4"), 1);
        // 8 times 9 / 10 are 7, 8 times 8 / 10 are 6.
        givesAt("laid of 7", line(9, 1, "laid"), 0);
        Edge.due("laid of 7: stands()", line(9, 1, "laid").stands(), 1);
        Edge.due("laid of 7, a bit smoother: stands()", line(8, 1, "laid").stands(), 0);
        Edge.due("book 3 of 7: stands()", line(99, 1, "book 3").stands(), 0);
        Edge.due("peg of 42: stands()", line(99, 6, "peg").stands(), 0);
        // 40 and 41 by draw alone: a cloth of 7 times 7 less the cells that lie on other things.
        String den = "thing 0 20 99 99 9; thing 9 20 9 9 9; cloth 0 7 7 1 1; hold 0 0 peg;";
        Edge.due("41: hold(0, 5)", Check.den(den).hold(0, 5), 41);
        Edge.due("41: stands()", Check.den(den).stands(), 0);
        den = "thing 10 20 9 9 9; " + den.replace("hold 0 0", "hold 0 1");
        Edge.due("40: hold(0, 5)", Check.den(den).hold(0, 5), 40);
        Edge.due("40: stands()", Check.den(den).stands(), 1);
    }

    private static void bookLiesDown() {
        Edge.of("Terms 2", "A HOLD that GIVES holds no more (its book lies down)");
        ChairDen x = single(20, 10, 9, "book 1");
        Edge.due("its book gives: rest(0, 3)", x.rest(0, 3), 1);
        event(x, 0, 0, 0);
        // 20 times 10 / 10, without LOAD and book.
        Edge.due("without it: bears(0, 20)", x.bears(0, 20), 1);
        Edge.due("without it: bears(0, 21)", x.bears(0, 21), 0);
        Edge.due("hold(0, 2)", x.hold(0, 2), 2);
        Edge.due("hold(0, 3)", x.hold(0, 3), 1);
        Edge.due("hangs(0, 27), on the thing", x.hangs(0, 27), 1);
        Edge.due("leans(0, 27)", x.leans(0, 27), NONE);
    }

    private static void tipsAt(int h, int w, int b, int most) {
        ChairDen x = Check.den("thing 27 " + h + " " + w + " 99 " + b + ";");
        String name = h + " high, " + w + " heavy, base " + b;
        Edge.due(name + ": bears(0, " + most + ")", x.bears(0, most), 1);
        Edge.due(name + ": weakest(0)", x.weakest(0), most + 1);
        Edge.due(name + ": rest(0, " + most + ")", x.rest(0, most), 0);
        Edge.due(name + ": thing(0, 5)", x.thing(0, 5), 0);
        Edge.due(name + ": rest(0, " + (most + 1) + ")", x.rest(0, most + 1), 1);
        event(x, 0, 1, 0);
        Edge.due(name + ": thing(0, 5), tipped", x.thing(0, 5), 1);
        Edge.due(name + ": thing(0, 0), tipped", x.thing(0, 0), 27);
        Edge.due(name + ": bears(0, " + (most + 1) + "), lying", x.bears(0, most + 1), 1);
    }

    private static void tips() {
        Edge.of("Terms 2", "TIPS, if SIZE times H is more than W times B, and it stands: it lies then");
        tipsAt(5, 10, 1, 2);
        tipsAt(7, 10, 1, 1);
        tipsAt(11, 10, 1, 0);
        tipsAt(20, 1, 1, 0);
        tipsAt(10, 50, 5, 25);
        tipsAt(20, 99, 9, 44);
        tipsAt(1, 99, 9, 891);
        tipsAt(1, 1, 1, 1);
        ChairDen x = Check.den("thing 27 20 1 99 1; thing 28 20 1 99 1;");
        Edge.due("one of two: rest(1, 1)", x.rest(1, 1), 1);
        Edge.due("one of two: thing(0, 5)", x.thing(0, 5), 0);
        Edge.due("the other: rest(0, 1)", x.rest(0, 1), 1);
        Edge.due("both lie: thing(0, 5)", x.thing(0, 5), 1);
        Edge.due("both lie: thing(1, 5)", x.thing(1, 5), 1);
    }

    private static void tipsByPull() {
        Edge.of("Terms 2", "TIPS: SIZE by its PULL, the greater of both alone");
        ChairDen x = Check.den("thing 0 10 35 99 2; cloth 0 1 8 1 1; hold 0 0 tied;");
        Edge.due("70 of 70: stands()", x.stands(), 1);
        Edge.due("70 of 70: bears(0, 1)", x.bears(0, 1), 0);
        x = Check.den("thing 0 10 23 99 3; cloth 0 1 8 1 1; hold 0 0 tied;");
        Edge.due("70 of 69: stands()", x.stands(), 0);
        Edge.due("70 of 69: rest(-1, 0)", x.rest(-1, 0), 1);
        event(x, 0, 1, 0);
        x = Check.den("thing 27 10 20 99 1; cloth 27 2 2 1 1; hold 0 0 tied;");
        Edge.due("2 in rows, 2 in places: stands()", x.stands(), 1);
        Edge.due("2 in rows, 2 in places: bears(0, 1)", x.bears(0, 1), 0);
    }

    /** The most that a thing bears without sliding, and one more. */
    private static void slidesAt(String name, ChairDen x, int most) {
        Edge.due(name + ": bears(0, " + most + ")", x.bears(0, most), 1);
        Edge.due(name + ": weakest(0)", x.weakest(0), most + 1);
        Edge.due(name + ": rest(0, " + most + ")", x.rest(0, most), 0);
        Edge.due(name + ": rest(0, " + (most + 1) + ")", x.rest(0, most + 1), 1);
        event(x, 0, 2, 0);
        Edge.due(name + ": thing(0, 0)", x.thing(0, 0), 35);
        Edge.due(name + ": thing(0, 5)", x.thing(0, 5), 0);
    }

    private static void slides() {
        Edge.of("Terms 2", "SLIDES, if SIZE is more than W times R / 10 (that cuts towards 0)");
        slidesAt("10 times 10", Check.den("thing 27 1 10 10 9;"), 10);
        slidesAt("11 times 9", Check.den("thing 27 1 11 9 9;"), 9);
        slidesAt("99 times 0", Check.den("thing 27 1 99 0 9;"), 0);
        slidesAt("99 times 1", Check.den("thing 27 1 99 1 9;"), 9);
        slidesAt("1 times 9", Check.den("thing 27 1 1 9 9;"), 0);
        slidesAt("1 times 19", Check.den("thing 27 1 1 19 9;"), 1);
        slidesAt("99 times 89", Check.den("thing 27 1 99 89 9;"), 881);
        Edge.of("Terms 2", "SLIDES: what lies, too");
        ChairDen x = Check.den("thing 27 1 99 91 9;");
        Edge.due("99 times 91: rest(0, 900)", x.rest(0, 900), 1);
        event(x, 0, 1, 0);
        Edge.due("lying: bears(0, 900)", x.bears(0, 900), 1);
        Edge.due("lying: rest(0, 901)", x.rest(0, 901), 1);
        event(x, 0, 2, 0);
        Edge.due("lying: thing(0, 5)", x.thing(0, 5), 1);
    }

    private static void slidesByAllThatPresses() {
        Edge.of("Terms 2", "SLIDES: (W and all LOADS on it, books' N on it, too) times R / 10");
        slidesAt("10 and 9", single(10, 10, 9, "trapped"), 19);
        slidesAt("20, 9 and a book of 99", single(20, 10, 9, "book 99"), 128);
        slidesAt("20, 1 and a book of 22", single(20, 10, 1, "book 22"), 43);
        slidesAt("10, 9 and 4", Check.den("thing 27 1 10 10 9; cloth 27 1 1 9 1; cloth 27 1 1 4 1;"
            + "hold 0 0 trapped; hold 1 0 trapped;"), 23);
        slidesAt("one LOAD, one CLOTH that is not held", Check.den("thing 27 1 10 10 9; cloth 27 1 1 9 1; cloth 27 1 1 4 1;"
            + "hold 1 0 trapped;"), 14);
        // What was a book and is another hold weighs nothing.
        ChairDen x = single(20, 10, 9, "book 99");
        Edge.due("fasten(0, 4, 99)", x.fasten(0, 4, 99), 2);
        slidesAt("20 and 9, no book any more", x, 29);
    }

    private static void slidesTo(String cloth, int g, int b, int to) {
        ChairDen x = Check.den("thing 27 3 99 1 9; cloth " + cloth + " " + g + " 1; hold 0 0 trapped;");
        String name = "cloth " + cloth;
        Edge.due(name + ": bears(0, " + (b - 1) + ")", x.bears(0, b - 1), 1);
        Edge.due(name + ": rest(0, " + b + ")", x.rest(0, b), 1);
        event(x, 0, 2, 0);
        Edge.due(name + ": thing(0, 0)", x.thing(0, 0), to);
    }

    private static void slidesTheWay() {
        Edge.of("Terms 2", "SLIDES: one CELL the way of the greater sum");
        slidesTo("27 2 1", 9, 3, 35);
        slidesTo("19 2 1", 9, 3, 19);
        slidesTo("27 1 2", 9, 3, 28);
        slidesTo("26 1 2", 9, 3, 26);
        slidesTo("27 2 3", 2, 4, 28);
        slidesTo("25 2 3", 2, 4, 26);
        slidesTo("27 3 2", 2, 4, 35);
        slidesTo("11 3 2", 2, 4, 19);
        Edge.of("Terms 2", "SLIDES: of like ones the rows");
        slidesTo("27 2 2", 6, 1, 35);
        slidesTo("26 2 2", 6, 1, 35);
        slidesTo("18 2 2", 6, 1, 19);
        slidesTo("19 2 2", 6, 1, 19);
        Edge.of("Terms 2", "SLIDES: of a bump alone: down");
        // Drawn to all sides evenly: no PULL.
        ChairDen x = Check.den("thing 27 3 99 1 9; cloth 18 3 3 1 1; hold 0 0 trapped;");
        Edge.due("cloth 18 3 3: thing(0, 8)", x.thing(0, 8), 0);
        Edge.due("cloth 18 3 3: bears(0, 10)", x.bears(0, 10), 1);
        Edge.due("cloth 18 3 3: rest(0, 11)", x.rest(0, 11), 1);
        event(x, 0, 2, 0);
        Edge.due("cloth 18 3 3: thing(0, 0)", x.thing(0, 0), 35);
    }

    private static void slidesDown() {
        Edge.of("Terms 2", "SLIDES: if that is on THE FLOOR");
        for (int c = 0; c < 64; c++) {
            ChairDen x = Check.den("thing " + c + " 1 99 0 9;");
            Edge.due("cell " + c + ": bears(0, 0)", x.bears(0, 0), 1);
            Edge.due("cell " + c + ": bears(0, 1)", x.bears(0, 1), c < 56 ? 0 : 1);
            Edge.due("cell " + c + ": weakest(0)", x.weakest(0), c < 56 ? 1 : 892);
            Edge.due("cell " + c + ": rest(0, 891)", x.rest(0, 891), c < 56 ? 1 : 0);
            Edge.due("cell " + c + ": thing(0, 0)", x.thing(0, 0), c < 56 ? c + 8 : c);
        }
    }

    private static void slidesWhereNoThingIs() {
        Edge.of("Terms 2", "SLIDES: and no THING is there");
        for (int other = 0; other < 64; other++) {
            if (other != 27) {
                ChairDen x = Check.den("thing 27 1 99 0 9; thing " + other + " 1 99 0 9;");
                Edge.due("another at " + other + ": bears(0, 1)", x.bears(0, 1), other == 35 ? 1 : 0);
            }
        }
        ChairDen x = Check.den("thing 27 1 99 0 9; thing 35 20 1 99 1;");
        Edge.due("the other tips: rest(1, 1)", x.rest(1, 1), 1);
        Edge.due("the other lies: thing(1, 5)", x.thing(1, 5), 1);
        Edge.due("the other lies there: bears(0, 891)", x.bears(0, 891), 1);
        Edge.of("Terms 2", "a THING that SLIDES and can (the least)");
        // The first is drawn to where the third is; the second slides to and fro.
        x = Check.den("thing 0 5 99 0 9; thing 16 5 99 0 9; thing 1 1 99 99 9; cloth 0 1 2 1 1; cloth 16 1 2 1 1;"
            + "hold 0 0 trapped; hold 1 1 trapped;");
        Edge.due("thing(0, 8)", x.thing(0, 8), 1);
        Edge.due("rest(-1, 0)", x.rest(-1, 0), 60);
        for (int i = 0; i < 60; i++) {
            event(x, i, 2, 1);
        }
        // The third gone, the first is the least that can.
        x = Check.den("thing 0 5 99 0 9; thing 16 5 99 0 9; cloth 0 1 2 1 1; cloth 16 1 2 1 1; hold 0 0 trapped; hold 1 1 trapped;");
        Edge.due("without the third: rest(-1, 0)", x.rest(-1, 0), 60);
        event(x, 0, 2, 0);
        event(x, 59, 2, 0);
    }

    private static void slidesOut() {
        Edge.of("Terms 2", "HOLDS of CLOTHS that it is not under any more hold no more (that is no EVENT of its own)");
        ChairDen x = Check.den("thing 27 3 99 1 9; cloth 27 1 1 1 1; cloth 27 2 1 9 1; hold 0 0 trapped; hold 1 0 trapped;");
        Edge.due("bears(0, 2)", x.bears(0, 2), 1);
        Edge.due("rest(0, 3)", x.rest(0, 3), 1);
        event(x, 0, 2, 0);
        event(x, 1, NONE, NONE);
        Edge.due("thing(0, 0)", x.thing(0, 0), 35);
        Edge.due("hold(0, 4), not under it any more", x.hold(0, 4), 0);
        Edge.due("hold(1, 4), still under it", x.hold(1, 4), 1);
        Edge.due("count(3)", x.count(3), 1);
        Edge.due("gives(0, 0)", x.gives(0, 0), NOT);
        Edge.due("fasten(0, 1, 0)", x.fasten(0, 1, 0), NOT);
        // Back under it, it does not hold by itself.
        Edge.due("rest(0, 3) back", x.rest(0, 3), 1);
        Edge.due("thing(0, 0)", x.thing(0, 0), 27);
        Edge.due("hold(0, 4), under it again", x.hold(0, 4), 0);
        Edge.due("hold(0, 2)", x.hold(0, 2), 4);
        Edge.due("fasten(0, 1, 0)", x.fasten(0, 1, 0), 4);
        Edge.due("hold(0, 4), fastened", x.hold(0, 4), 1);
        // Other things' holds of that cloth stay.
        x = Check.den("thing 27 1 99 0 9; thing 28 1 99 99 9; cloth 27 1 2 1 9; hold 0 1 peg; hold 0 0 peg;");
        Edge.due("rest(0, 1)", x.rest(0, 1), 1);
        Edge.due("of the other thing: hold(0, 4)", x.hold(0, 4), 1);
        Edge.due("of the one that slid: hold(1, 4)", x.hold(1, 4), 0);
    }

    private static void leastFirst() {
        Edge.of("Terms 2", "A ROUND: a HOLD that GIVES (the least)");
        ChairDen x = Check.den("thing 27 1 99 99 9; cloth 27 1 1 1 1; cloth 27 1 1 1 1; hold 1 0 book 1; hold 0 0 book 1;");
        Edge.due("rest(0, 3)", x.rest(0, 3), 1);
        event(x, 0, 0, 0);
        x = Check.den("thing 0 9 99 99 9; thing 8 9 99 99 9; cloth 0 1 8 6 1; cloth 8 1 8 6 1; hold 1 1 peg; hold 0 0 peg;");
        Edge.due("rest(-1, 0)", x.rest(-1, 0), 2);
        event(x, 0, 0, 0);
        event(x, 1, 0, 1);
        Edge.of("Terms 2", "A ROUND: a THING that TIPS (the least)");
        x = Check.den("thing 0 20 9 99 1; thing 8 20 9 99 1; cloth 0 1 4 1 1; cloth 8 1 4 1 1; hold 1 1 peg; hold 0 0 peg;");
        x.rest(-1, 0);
        event(x, 0, 1, 0);
        event(x, 1, 1, 1);
        Edge.of("Terms 2", "A ROUND: a THING that SLIDES and can (the least), no more than one");
        x = Check.den("thing 8 3 99 0 9; thing 0 3 99 0 9; cloth 0 1 2 1 1; cloth 8 1 2 1 1; hold 0 1 peg; hold 1 0 peg;");
        Edge.due("rest(-1, 0)", x.rest(-1, 0), 60);
        event(x, 0, 2, 0);
        Edge.due("thing(1, 0), never reached", x.thing(1, 0), 0);
    }

    private static void kindsFirst() {
        Edge.of("Terms 2", "A ROUND: the first of these that is so: GIVES, TIPS, SLIDES");
        // By a bump of 41 its peg gives, it tips, and it slides; each is done by that alone.
        String all = "thing 27 5 20 0 2; cloth 27 1 1 1 1; hold 0 0 peg;";
        ChairDen x = Check.den(all);
        Edge.due("gives first: rest(0, 41)", x.rest(0, 41), 1);
        event(x, 0, 0, 0);
        Edge.due("thing(0, 5)", x.thing(0, 5), 0);
        Edge.due("thing(0, 0)", x.thing(0, 0), 27);
        Edge.due("then tips: rest(0, 41)", x.rest(0, 41), 1);
        event(x, 0, 1, 0);
        Edge.due("thing(0, 0)", x.thing(0, 0), 27);
        Edge.due("then slides: rest(0, 41)", x.rest(0, 41), 1);
        event(x, 0, 2, 0);
        Edge.due("thing(0, 0)", x.thing(0, 0), 35);
        // A greater number that gives is ahead of a lesser one that tips, and so on.
        x = Check.den("thing 0 20 9 99 1; thing 8 9 99 99 9; cloth 0 1 4 1 1; cloth 8 1 8 6 1; hold 0 0 peg; hold 1 1 peg;");
        x.rest(-1, 0);
        event(x, 0, 0, 1);
        event(x, 1, 1, 0);
        x = Check.den("thing 0 3 99 0 9; thing 8 20 9 99 1; cloth 0 1 2 1 1; cloth 8 1 4 1 1; hold 0 0 peg; hold 1 1 peg;");
        x.rest(-1, 0);
        event(x, 0, 1, 1);
        event(x, 1, 2, 0);
    }

    private static void sixtyRounds() {
        Edge.of("Terms 2", "REST: ROUNDS, till there is nothing, or 60 were");
        ChairDen x = Check.den("thing 27 3 99 0 9; cloth 27 1 2 1 1; cloth 27 1 2 1 1; hold 0 0 peg; hold 1 0 peg;");
        Edge.due("to and fro: rest(-1, 0)", x.rest(-1, 0), 60);
        Edge.due("count(5)", x.count(5), 60);
        event(x, 59, 2, 0);
        event(x, 60, NONE, NONE);
        Edge.due("thing(0, 0), behind 60", x.thing(0, 0), 27);
        // One is for the peg, so 59 are left: an odd number.
        Edge.due("a peg and to and fro: rest(0, 40)", x.rest(0, 40), 60);
        event(x, 0, 0, 0);
        event(x, 59, 2, 0);
        Edge.due("thing(0, 0), behind 59", x.thing(0, 0), 28);
        Edge.due("and once more: rest(-1, 0)", x.rest(-1, 0), 60);
        Edge.due("thing(0, 0), behind 60 more", x.thing(0, 0), 28);
        // Till there is nothing.
        x = Check.den("thing 27 1 99 0 9;");
        Edge.due("one: rest(0, 1)", x.rest(0, 1), 1);
        Edge.due("nothing: rest(0, 0)", x.rest(0, 0), 0);
        Edge.due("count(5)", x.count(5), 0);
    }

    private static void firstRoundAlone() {
        Edge.of("Terms 2", "A bump lasts for the first ROUND alone");
        ChairDen x = Check.den("thing 27 1 99 0 9; cloth 27 1 1 1 1; cloth 27 1 1 1 1; hold 0 0 peg; hold 1 0 peg;");
        Edge.due("rest(0, 999)", x.rest(0, 999), 1);
        event(x, 0, 0, 0);
        Edge.due("hold(1, 4)", x.hold(1, 4), 1);
        Edge.due("rest(0, 999)", x.rest(0, 999), 1);
        event(x, 0, 0, 1);
        Edge.due("thing(0, 5)", x.thing(0, 5), 0);
        Edge.due("rest(0, 999)", x.rest(0, 999), 1);
        event(x, 0, 1, 0);
        Edge.due("rest(0, 999)", x.rest(0, 999), 1);
        event(x, 0, 2, 0);
        Edge.due("thing(0, 0)", x.thing(0, 0), 35);
        Edge.due("rest(0, 0)", x.rest(0, 0), 0);
        Edge.due("thing(0, 0)", x.thing(0, 0), 35);
    }

    private static void thingBounds() {
        Edge.of("Promise 7", "Of a THING: what = 0 .. 8. UNKNOWN, OUTSIDE.");
        Edge.refused(Edge::richWithText, "thing(#, 0)", UNKNOWN, (x, n) -> x.thing(n, 0), -1, 4, 8, LOW, HIGH);
        Edge.refused(Edge::richWithText, "thing(#, 9)", UNKNOWN, (x, n) -> x.thing(n, 9), -1, 4);
        Edge.refused(Edge::richWithText, "thing(3, #)", OUTSIDE, (x, n) -> x.thing(3, n), -1, 9, LOW, HIGH);
        ChairDen x = Edge.rich();
        int[][] due = {{9, 10, 50, 20, 5, 0, 15, 15, 15}, {59, 1, 9, 0, 9, 1, 0, 0, 0}};
        for (int what = 0; what <= 8; what++) {
            Edge.due("thing(0, " + what + ")", x.thing(0, what), due[0][what]);
            Edge.due("thing(3, " + what + ")", x.thing(3, what), due[1][what]);
        }
        Edge.refused(ChairDen::new, "new: thing(#, 0)", UNKNOWN, (y, n) -> y.thing(n, 0), -1, 0);
    }

    private static void holdBounds() {
        Edge.of("Promise 8", "Of a HOLD: what = 0 .. 6 .. N (0 of others) .. (both 0, if it does not). UNKNOWN, OUTSIDE.");
        Edge.refused(Edge::richWithText, "hold(#, 0)", UNKNOWN, (x, n) -> x.hold(n, 0), -1, 4, 12, LOW, HIGH);
        Edge.refused(Edge::richWithText, "hold(#, 7)", UNKNOWN, (x, n) -> x.hold(n, 7), -1, 4);
        Edge.refused(Edge::richWithText, "hold(3, #)", OUTSIDE, (x, n) -> x.hold(3, n), -1, 7, LOW, HIGH);
        ChairDen x = Edge.rich();
        int[][] due = {{0, 0, 1, 0, 1, 15, 19}, {0, 1, 2, 20, 0, 0, 0}, {0, 2, 2, 33, 1, 4, 5}, {1, 2, 3, 0, 1, 10, 22}};
        for (int k = 0; k < 4; k++) {
            for (int what = 0; what <= 6; what++) {
                Edge.due("hold(" + k + ", " + what + ")", x.hold(k, what), due[k][what]);
            }
        }
        Edge.refused(ChairDen::new, "new: hold(#, 0)", UNKNOWN, (y, n) -> y.hold(n, 0), -1, 0);
    }

    private static void hangsBounds() {
        Edge.of("Promise 9", "HANGS of a CLOTH at a CELL; NONE: it is not over it. UNKNOWN.");
        Edge.refused(Edge::richWithText, "hangs(#, 9)", UNKNOWN, (x, n) -> x.hangs(n, 9), -1, 2, 3, LOW, HIGH);
        Edge.refused(Edge::richWithText, "hangs(1, #)", UNKNOWN, (x, n) -> x.hangs(1, n), -1, 64, LOW, HIGH);
        ChairDen x = Check.den("cloth 18 2 3 1 1; cloth 0 8 8 1 1; cloth 63 1 1 1 1;");
        int[] over = {18, 19, 20, 26, 27, 28};
        int[] beside = {17, 21, 10, 12, 25, 29, 34, 36, 0, 63};
        for (int c : over) {
            Edge.due("hangs(0, " + c + ")", x.hangs(0, c), 0);
        }
        for (int c : beside) {
            Edge.due("hangs(0, " + c + ")", x.hangs(0, c), NONE);
        }
        Edge.due("hangs(1, 0)", x.hangs(1, 0), 0);
        Edge.due("hangs(1, 63)", x.hangs(1, 63), 0);
        Edge.due("hangs(2, 62)", x.hangs(2, 62), NONE);
        Edge.due("hangs(2, 63)", x.hangs(2, 63), 0);
        Edge.due("hangs(3, 63)", x.hangs(3, 63), UNKNOWN);
    }

    private static void leansBounds() {
        Edge.of("Promise 10", "On which HOLD a CELL of a CLOTH LEANS; NONE. UNKNOWN, NOT: it is not over it.");
        Edge.refused(Edge::richWithText, "leans(#, 9)", UNKNOWN, (x, n) -> x.leans(n, 9), -1, 2, 3, LOW, HIGH);
        Edge.refused(Edge::richWithText, "leans(1, #)", UNKNOWN, (x, n) -> x.leans(1, n), -1, 64, LOW, HIGH);
        Edge.refused(Edge::richWithText, "leans(0, #)", NOT, (x, n) -> x.leans(0, n), 0, 8, 14, 49, 63);
        ChairDen x = Edge.rich();
        Edge.due("leans(0, 9)", x.leans(0, 9), 0);
        Edge.due("leans(0, 45)", x.leans(0, 45), 2);
        Edge.due("leans(1, 45)", x.leans(1, 45), 3);
        Edge.due("leans(0, 13), its hold gave", x.leans(0, 13), NONE);
        Edge.due("leans(2, 0), neither cloth nor over it", x.leans(2, 0), UNKNOWN);
    }

    private static void heightBounds() {
        Edge.of("Promise 11", "HEIGHT of a CELL; NONE. UNKNOWN.");
        Edge.refused(Edge::richWithText, "height(#)", UNKNOWN, ChairDen::height, -1, 64, LOW, HIGH);
        Edge.of("Terms 3", "HEIGHT: the greatest HANGS of CLOTHS over it (NONE: there is none over it)");
        ChairDen x = Check.den("thing 0 9 99 99 9; thing 63 1 9 9 9; cloth 0 1 3 1 1; cloth 0 1 3 1 2; cloth 2 1 2 1 1; hold 0 0 peg; hold 1 0 peg;");
        int[] due = {9, 8, 7, 0, NONE};
        for (int c = 0; c < 5; c++) {
            Edge.due("height(" + c + ")", x.height(c), due[c]);
        }
        Edge.due("height(63), a thing under no cloth", x.height(63), NONE);
        x = Check.den("thing 0 9 99 99 9; cloth 0 1 3 1 2; cloth 0 1 3 1 1; hold 0 0 peg; hold 1 0 peg;");
        Edge.due("the second is the greater: height(2)", x.height(2), 7);
    }

    private static void givesBounds() {
        Edge.of("Promise 12", "bumped by b (0 .. 999). UNKNOWN, OUTSIDE, NOT: it does not hold.");
        Edge.refused(Edge::richWithText, "gives(#, 5)", UNKNOWN, (x, n) -> x.gives(n, 5), -1, 4, 12, LOW, HIGH);
        Edge.refused(Edge::richWithText, "gives(#, 1000)", UNKNOWN, (x, n) -> x.gives(n, 1000), -1, 4);
        Edge.refused(Edge::richWithText, "gives(0, #)", OUTSIDE, (x, n) -> x.gives(0, n), -1, 1000, LOW, HIGH);
        Edge.refused(Edge::richWithText, "gives(1, #), it gave", OUTSIDE, (x, n) -> x.gives(1, n), -1, 1000);
        Edge.refused(Edge::richWithText, "gives(1, #), it gave", NOT, (x, n) -> x.gives(1, n), 0, 999);
        Edge.still(Edge::richWithText, "gives(0, 0)", 0, x -> x.gives(0, 0));
        Edge.still(Edge::richWithText, "gives(0, 999)", 1, x -> x.gives(0, 999));
    }

    private static void restBounds() {
        Edge.of("Promise 13", "REST with a bump of b (0 .. 999) at a THING (NONE: none; b is not looked at). UNKNOWN, OUTSIDE.");
        Edge.refused(Edge::richWithText, "rest(#, 5)", UNKNOWN, (x, n) -> x.rest(n, 5), -2, 4, 8, LOW, HIGH);
        Edge.refused(Edge::richWithText, "rest(#, 1000)", UNKNOWN, (x, n) -> x.rest(n, 1000), -2, 4);
        Edge.refused(Edge::richWithText, "rest(0, #)", OUTSIDE, (x, n) -> x.rest(0, n), -1, 1000, LOW, HIGH);
        Edge.refused(ChairDen::new, "new: rest(#, 0)", UNKNOWN, (x, n) -> x.rest(n, 0), -2, 0);
        for (int b : new int[] {LOW, -1, 0, 999, 1000, HIGH}) {
            ChairDen x = line(99, 5, "peg");
            Edge.due("rest(-1, " + b + ") of what stands", x.rest(NONE, b), 0);
            x = line(99, 6, "peg");
            Edge.due("rest(-1, " + b + ") of what gives", x.rest(NONE, b), 1);
            event(x, 0, 0, 0);
        }
        ChairDen x = Edge.rich();
        Edge.due("rest(0, 0)", x.rest(0, 0), 0);
        Edge.due("count(5)", x.count(5), 0);
        Edge.due("rest(0, 999)", x.rest(0, 999) > 0 ? 1 : 0, 1);
        Edge.due("rest(3, 999) of the last thing", x.rest(3, 999), 0);
    }

    private static void eventBounds() {
        Edge.of("Promise 14", "EVENT i: what = 0 what it was, 1 which; NONE: not so many (i below 0, too). OUTSIDE.");
        Edge.refused(Edge::richWithText, "event(0, #)", OUTSIDE, (x, n) -> x.event(0, n), -1, 2, LOW, HIGH);
        Edge.refused(Edge::richWithText, "event(-1, #)", OUTSIDE, (x, n) -> x.event(-1, n), -1, 2);
        Edge.refused(Edge::richWithText, "event(1, #)", OUTSIDE, (x, n) -> x.event(1, n), -1, 2);
        Edge.refused(Edge::richWithText, "event(#, 0)", NONE, (x, n) -> x.event(n, 0), -1, 1, 59, 60, LOW, HIGH);
        Edge.refused(Edge::richWithText, "event(#, 1)", NONE, (x, n) -> x.event(n, 1), -1, 1, 59, 60, LOW, HIGH);
        event(Edge.rich(), 0, 0, 1);
        // Of the latest REST alone, whatever was longer before.
        ChairDen x = line(99, 6, "peg");
        Edge.due("rest(-1, 0)", x.rest(NONE, 0), 1);
        Edge.due("rest(-1, 0) again", x.rest(NONE, 0), 0);
        event(x, 0, NONE, NONE);
        // What is only tried is no REST of that kind.
        x = line(99, 6, "peg");
        x.rest(NONE, 0);
        x.fasten(0, 1, 0);
        x.stands();
        x.bears(0, 999);
        x.weakest(0);
        x.most(5, 1, 1, 0);
        x.heap(0);
        event(x, 0, 0, 0);
        Edge.due("count(5)", x.count(5), 1);
    }

    private static void standsEdges() {
        Edge.of("Promise 15", "Whether it STANDS: 1, 0.");
        Edge.still(() -> line(99, 5, "peg"), "stands()", 1, ChairDen::stands);
        Edge.still(() -> line(99, 6, "peg"), "stands()", 0, ChairDen::stands);
        Edge.still(Edge::richWithText, "stands()", 1, ChairDen::stands);
        Edge.still(ChairDen::new, "stands() of nothing", 1, ChairDen::stands);
        Edge.of("Terms 3", "STANDS: a REST, tried, without a bump, has no EVENT");
        Edge.due("without a hold", Check.den("thing 0 20 1 0 1;").stands(), 1);
        Edge.due("by sliding", Check.den("thing 27 3 99 0 9; cloth 27 1 2 1 1; hold 0 0 peg;").stands(), 0);
        Edge.due("by tipping", Check.den("thing 0 20 1 99 1; cloth 0 1 2 1 1; hold 0 0 peg;").stands(), 0);
    }

    private static void bearsBounds() {
        Edge.of("Promise 16", "BEARS: 1, 0. UNKNOWN, OUTSIDE.");
        Edge.refused(Edge::richWithText, "bears(#, 5)", UNKNOWN, (x, n) -> x.bears(n, 5), -1, 4, 8, LOW, HIGH);
        Edge.refused(Edge::richWithText, "bears(#, 1000)", UNKNOWN, (x, n) -> x.bears(n, 1000), -1, 4);
        Edge.refused(Edge::richWithText, "bears(0, #)", OUTSIDE, (x, n) -> x.bears(0, n), -1, 1000, LOW, HIGH);
        Edge.still(Edge::richWithText, "bears(0, 0)", 1, x -> x.bears(0, 0));
        Edge.still(Edge::richWithText, "bears(0, 999)", 0, x -> x.bears(0, 999));
        Edge.still(Edge::richWithText, "bears(3, 999), lying at the edge", 1, x -> x.bears(3, 999));
        Edge.of("Terms 3", "BEARS b at a THING: a REST with a bump of b at it has no EVENT");
        // What happens elsewhere is an event as well.
        ChairDen x = Check.den("thing 0 10 99 99 9; thing 63 1 99 99 9; cloth 0 1 8 6 1; hold 0 0 peg;");
        Edge.due("bears(1, 0)", x.bears(1, 0), 0);
    }

    /** One that lies, and slides by more than (99 and G) times 96 / 10. */
    private static ChairDen lying(int g) {
        ChairDen x = single(99, 96, g, "trapped");
        x.rest(0, 900);
        return x;
    }

    private static void weakestEdges() {
        Edge.of("Promise 17", "The least b (0 .. 999) that a THING does not bear; NONE. UNKNOWN.");
        Edge.refused(Edge::richWithText, "weakest(#)", UNKNOWN, ChairDen::weakest, -1, 4, 8, LOW, HIGH);
        Edge.refused(ChairDen::new, "new: weakest(#)", UNKNOWN, ChairDen::weakest, -1, 0);
        Edge.still(() -> lying(5), "weakest(0), the last", 999, x -> x.weakest(0));
        Edge.still(() -> lying(6), "weakest(0), beyond", NONE, x -> x.weakest(0));
        Edge.due("bears(0, 998), the last", lying(5).bears(0, 998), 1);
        Edge.due("bears(0, 999), the last", lying(5).bears(0, 999), 0);
        Edge.due("bears(0, 999), beyond", lying(6).bears(0, 999), 1);
        Edge.still(() -> line(99, 6, "peg"), "weakest(0) of what does not stand", 0, x -> x.weakest(0));
        Edge.due("weakest(0) of what bears nothing", Check.den("thing 0 1 9 0 9;").weakest(0), 1);
    }
}
