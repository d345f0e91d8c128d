import java.nio.charset.StandardCharsets;

/** Every boundary case of texts: promises 1 to 6, and 'Terms' 1. */
public final class EdgeTextTest {
    private static final String THING = "thing 0 10 50 50 5;";
    private static final String CLOTH = "cloth 0 1 8 1 1;";
    /** A thing under a cloth, one that is not, and a cloth behind these. */
    private static final String TWO = THING + "thing 9 1 1 0 1;" + CLOTH;

    private EdgeTextTest() {
    }

    public static void main(String[] args) {
        newObject();
        feedBounds();
        feedOrder();
        feedFull();
        textLength();
        denAnswers();
        denEmpties();
        denStays();
        denBehindDens();
        eightThings();
        threeCloths();
        twelveHolds();
        thingNumbers();
        clothNumbers();
        holdNumbers();
        lightNumbers();
        withinTheFloor();
        told();
        pairs();
        lyingUnder();
        bars();
        once();
        figures();
        words();
        signs();
        blanks();
        firstFault();
        leastFault();
        theEnd();
        emptyTexts();
        wantNumbers();
        wantParts();
        wantBehind();
        wantLength();
        wantFour();
        wantEmpties();
        faultPlaces();
        counts();
        Edge.end();
    }

    private static void newObject() {
        Edge.of("Promise 1", "Nothing is on THE FLOOR.");
        ChairDen x = new ChairDen();
        for (int what = 0; what <= 6; what++) {
            Edge.due("count(" + what + ")", x.count(what), 0);
        }
        for (int c = 0; c < 64; c++) {
            Edge.due("height(" + c + ")", x.height(c), ChairDen.NONE);
            Edge.due("light(" + c + ")", x.light(c), 60);
        }
        long[] unknown = {x.thing(0, 0), x.hold(0, 0), x.hangs(0, 0), x.leans(0, 0), x.gives(0, 0), x.rest(0, 0),
            x.bears(0, 0), x.weakest(0), x.most(1, 0, 0, 0), x.change(0, 0), x.fasten(0, 0, 0), x.met(0), x.heap(1)};
        for (int i = 0; i < unknown.length; i++) {
            Edge.due("of what there is not, " + i, unknown[i], ChairDen.UNKNOWN);
        }
        Edge.due("stands()", x.stands(), 1);
        Edge.due("cells(1)", x.cells(1), 0);
        Edge.due("rooms(1)", x.rooms(1), 0);
        Edge.due("fault()", x.fault(), ChairDen.NONE);
        Edge.due("event(0, 0)", x.event(0, 0), ChairDen.NONE);
        Edge.due("tower(0)", x.tower(0), ChairDen.NONE);
        Edge.due("goBack(0)", x.goBack(0), ChairDen.NOT);
        Edge.due("goBack(1)", x.goBack(1), ChairDen.NOT);
        Edge.due("bumps(1, 0)", x.bumps(1, 0), ChairDen.NOT);
        Edge.due("seed(0)", x.seed(0), 0);
    }

    private static void feedBounds() {
        Edge.of("Promise 2", "n bytes (1 .. 8) .. OUTSIDE");
        Edge.refused(Edge::richWithText, "feed(#, 97)", ChairDen.OUTSIDE, (x, n) -> x.feed(n, 97), 0, 9, -1, Edge.LOW, Edge.HIGH);
        for (int n = 1; n <= 8; n++) {
            ChairDen x = new ChairDen();
            Edge.due("feed(" + n + ", 0)", x.feed(n, 0), n);
            Edge.due("feed(" + n + ", -1)", x.feed(n, -1), 2 * n);
            Edge.due("count(6)", x.count(6), 2 * n);
        }
    }

    private static void feedOrder() {
        Edge.of("Promise 2", "The lowest n bytes of a long, the highest of these first, come behind THE TEXT");
        String text = "light 37 10; bar";
        for (int n = 1; n <= 8; n++) {
            ChairDen x = new ChairDen();
            for (int i = 0; i < text.length(); i += n) {
                int many = Math.min(n, text.length() - i);
                long above = many == 8 ? 0 : 0x6161616161616161L << (8 * many);
                byte[] bytes = text.substring(i, i + many).getBytes(StandardCharsets.ISO_8859_1);
                Edge.due("feed(" + many + ", ..)", x.feed(many, above | Check.packed(bytes, 0, many)), i + many);
            }
            Edge.due("den() fed by " + n, x.den(), -11);
            Edge.due("fault() fed by " + n, x.fault(), 16);
        }
        // The highest byte of all, with its sign.
        ChairDen x = new ChairDen();
        x.feed(8, 0x2020202020202080L);
        Edge.due("den() of byte 128 at last", x.den(), -11);
        Edge.due("fault() of byte 128 at last", x.fault(), 7);
        x.feed(8, 0x8020202020202020L);
        Edge.due("den() of byte 128 at first", x.den(), -11);
        Edge.due("fault() of byte 128 at first", x.fault(), 0);
    }

    private static ChairDen filled(int many) {
        ChairDen x = new ChairDen();
        Edge.fill(x, many, ' ');
        return x;
    }

    private static void feedFull() {
        Edge.of("Promise 2", "FULL (500)");
        for (int n = 1; n <= 8; n++) {
            int bytes = n;
            Edge.due("feed(" + n + ") to 500", filled(500 - n).feed(n, 0x20), 500);
            Edge.still(() -> filled(501 - bytes), "feed(" + n + ") to 501", ChairDen.FULL, x -> x.feed(bytes, 0x20));
            ChairDen x = filled(501 - n);
            x.feed(n, 0x20);
            Edge.due("what still fits", n == 1 ? 500 : x.feed(n - 1, 0x20), 500);
        }
        Edge.of("Terms", "REFUSALS, of several the first in this order: OUTSIDE ahead of FULL");
        Edge.refused(() -> filled(500), "feed(#) at 500", ChairDen.OUTSIDE, (x, n) -> x.feed(n, 0), 0, 9);
        Edge.refused(() -> filled(500), "feed(#) at 500", ChairDen.FULL, (x, n) -> x.feed(n, 0), 1, 8);
    }

    private static void textLength() {
        Edge.of("Terms 1", "told in a text (500 bytes at most)");
        ChairDen x = new ChairDen();
        Check.feed(x, "thing 7 1 1 0 1");
        Edge.fill(x, 500 - 16, ' ');
        Edge.due("feed(';')", x.feed(1, ';'), 500);
        Edge.due("den() whose last byte is the 500th", x.den(), 0);
        Edge.due("then thing(0, 0)", x.thing(0, 0), 7);
        Check.feed(x, "thing 7 1 1 0 1");
        Edge.fill(x, 500 - 15, ' ');
        Edge.due("den() that has no end within 500", x.den(), -11);
        Edge.due("then fault()", x.fault(), 500);
        Edge.fill(x, 499, ' ');
        x.feed(1, ';');
        Edge.due("den() of a fault at the 500th", x.den(), -11);
        Edge.due("then fault()", x.fault(), 499);
    }

    private static void denAnswers() {
        Edge.of("Promise 3", "how many HOLDS; -10 less the number of its FAULT");
        Edge.fine("", 0);
        Edge.fine(TWO + "hold 0 0 peg;", 1);
        Edge.faulty("thing", 1, 5);
        Edge.faulty("thing 64", 2, 6);
        Edge.faulty(THING + "thing 0", 3, 25);
        Edge.faulty(CLOTH + CLOTH + CLOTH + "cloth", 4, 48);
        Edge.faulty("cloth 1 1 8", 5, 10);
    }

    private static void denEmpties() {
        Edge.of("Promise 3", "THE TEXT (it is empty then, with a FAULT, too)");
        ChairDen x = new ChairDen();
        Check.feed(x, THING);
        Edge.due("den()", x.den(), 0);
        Edge.due("count(6)", x.count(6), 0);
        Check.feed(x, THING + "?");
        Edge.due("den() with a fault", x.den(), -11);
        Edge.due("count(6)", x.count(6), 0);
        Edge.due("feed(1, ..)", x.feed(1, ' '), 1);
        Edge.due("count(0), the den is as it was", x.count(0), 1);
        Edge.due("den() of what came behind", x.den(), 0);
        Edge.due("count(0)", x.count(0), 0);
    }

    private static void denStays() {
        Edge.of("Promise 3", "no EVENTS, IMAGES are gone; WANTS, THE SEED stay");
        ChairDen x = Edge.rich();
        x.keep(1);
        Edge.due("count(5) ahead", x.count(5) > 0 ? 1 : 0, 1);
        Check.feed(x, TWO);
        Edge.due("den()", x.den(), 0);
        Edge.due("count(5)", x.count(5), 0);
        Edge.due("event(0, 0)", x.event(0, 0), ChairDen.NONE);
        Edge.due("goBack(0)", x.goBack(0), ChairDen.NOT);
        Edge.due("goBack(1)", x.goBack(1), ChairDen.NOT);
        Edge.due("count(4)", x.count(4), 2);
        Edge.due("met(0), 'room 5 high 3 door'", x.met(0), 0);
        Edge.due("met(1), 'room 0 stands'", x.met(1), 1);
        Edge.due("seed(0)", x.seed(0), 77);
    }

    /** Dens that are nearly alike, one behind the other: each is as it would be on a new object. */
    private static void denBehindDens() {
        Edge.of("Promise 3", "THE TEXT becomes THE DEN (nothing is left of those before)");
        String[] dens = {TWO + CLOTH + "hold 0 0 peg; light 9 1; bar 1;", TWO + "hold 0 0 laid;", TWO.replace("1 8 1 1", "1 4 1 2") + "hold 0 0 peg;",
            THING + CLOTH, "", TWO + "hold 0 0 book 9;", TWO.replace("50 50 5", "40 50 5") + "hold 0 0 peg; light 30 2;"};
        ChairDen x = new ChairDen();
        for (int i = 0; i < 3 * dens.length; i++) {
            String text = dens[i * i % dens.length];
            Check.feed(x, text);
            x.den();
            x.rest(0, i % 2 == 0 ? 60 : 0);
            Check.feed(x, dens[i % dens.length]);
            ChairDen y = Check.den(dens[i % dens.length]);
            Edge.due("den() " + i, x.den(), y.count(2));
            long[] got = asked(x);
            long[] want = asked(y);
            for (int j = 0; j < want.length; j++) {
                Edge.due("den " + i + " behind '" + text + "', answer " + j, got[j], want[j]);
            }
        }
    }

    private static long[] asked(ChairDen x) {
        return new long[] {x.hold(0, 5), x.hold(0, 6), x.hold(0, 4), x.thing(0, 5), x.thing(0, 7), x.count(0), x.count(1),
            x.count(2), x.count(3), x.most(3, 1, 1, ChairDen.NONE), x.most(3, 1, 1, 0), x.light(0), x.light(63), x.hangs(0, 4),
            x.hangs(1, 4), x.cells(3), x.weakest(0), x.stands()};
    }

    /** Things side by side from a cell on. */
    private static String things(int many) {
        StringBuilder s = new StringBuilder();
        for (int t = 0; t < many; t++) {
            s.append("thing ").append(t).append(" 1 1 0 1;");
        }
        return s.toString();
    }

    private static void eightThings() {
        Edge.of("Terms 1", "8 THINGS at most .. 4 a THING too many (at the clause's first letter)");
        for (int many = 0; many <= 8; many++) {
            ChairDen x = Edge.fine(things(many), 0);
            Edge.due("count(0) of " + many, x.count(0), many);
            Edge.due("thing(" + (many - 1) + ", 0)", x.thing(many - 1, 0), many == 0 ? ChairDen.UNKNOWN : many - 1);
            Edge.due("thing(" + many + ", 0)", x.thing(many, 0), ChairDen.UNKNOWN);
        }
        int n = things(8).length();
        Edge.faulty(things(8) + "thing 8 1 1 0 1;", 4, n);
        Edge.faulty(things(8) + "  thing 8 1 1 0 1;", 4, n + 2);
        Edge.faulty(things(8) + "thing", 4, n);
        Edge.faulty(things(8) + "thing 0 0 0 0 0", 4, n);
        Edge.faulty(things(8) + CLOTH + "bar 7;thing 9 1 1 0 1;", 4, n + 22);
    }

    private static void threeCloths() {
        Edge.of("Terms 1", "3 CLOTHS at most .. 4 a CLOTH too many (at the clause's first letter)");
        String all = "";
        for (int many = 0; many <= 3; many++) {
            ChairDen x = Edge.fine(all, 0);
            Edge.due("count(1) of " + many, x.count(1), many);
            Edge.due("hangs(" + (many - 1) + ", 7)", x.hangs(many - 1, 7), many == 0 ? ChairDen.UNKNOWN : 0);
            Edge.due("hangs(" + many + ", 7)", x.hangs(many, 7), ChairDen.UNKNOWN);
            all += CLOTH;
        }
        all = CLOTH + CLOTH + CLOTH;
        Edge.faulty(all + CLOTH, 4, 48);
        Edge.faulty(all + " cloth", 4, 49);
        Edge.faulty(all + "cloth 64 9 9 9 10;", 4, 48);
    }

    /** Three cloths over eight things, and so many holds. */
    private static String holds(int many) {
        StringBuilder s = new StringBuilder(things(8) + CLOTH + CLOTH + CLOTH);
        for (int k = 0; k < many; k++) {
            s.append("hold ").append(k % 3).append(' ').append(k / 3).append("peg;");
        }
        return s.toString();
    }

    private static void twelveHolds() {
        Edge.of("Terms 1", "12 HOLDS at most .. 4 a HOLD too many (at the clause's first letter)");
        for (int many : new int[] {0, 1, 11, 12}) {
            ChairDen x = Edge.fine(holds(many), many);
            Edge.due("count(2) of " + many, x.count(2), many);
            Edge.due("count(3) of " + many, x.count(3), many);
            Edge.due("hold(" + (many - 1) + ", 1)", x.hold(many - 1, 1), many == 0 ? ChairDen.UNKNOWN : (many - 1) / 3);
            Edge.due("hold(" + many + ", 1)", x.hold(many, 1), ChairDen.UNKNOWN);
        }
        int n = holds(12).length();
        Edge.faulty(holds(12) + "hold 0 4 peg;", 4, n);
        Edge.faulty(holds(12) + " hold 0 0 peg;", 4, n + 1);
        Edge.faulty(holds(12) + "hold 3 8 mud;", 4, n);
        Edge.faulty(holds(12) + "hold", 4, n);
    }

    private static String put(String text, Object number) {
        return text.replace("#", String.valueOf(number));
    }

    private static void thingNumbers() {
        Edge.of("Terms 1", "'thing' C H W R B: CELL, H 1 .. 20, W 1 .. 99, R 0 .. 99, B 1 .. 9");
        String[] texts = {"thing # 2 3 4 5;", "thing 1 # 3 4 5;", "thing 1 2 # 4 5;", "thing 1 2 3 # 5;", "thing 1 2 3 4 #;"};
        int[] low = {0, 1, 1, 0, 1};
        int[] high = {63, 20, 99, 99, 9};
        for (int what = 0; what < 5; what++) {
            for (int value : new int[] {low[what], high[what]}) {
                ChairDen x = Edge.fine(put(texts[what], value), 0);
                Edge.due("thing(0, " + what + ")", x.thing(0, what), value);
            }
        }
        bounds("thing # 2 3 4 5;", 0, 63);
        bounds("thing 1 # 3 4 5;", 1, 20);
        bounds("thing 1 2 # 4 5;", 1, 99);
        bounds("thing 1 2 3 # 5;", 0, 99);
        bounds("thing 1 2 3 4 #;", 1, 9);
    }

    /** The bounds of one NUMBER, which stands at #: 2 is told at its first figure, 1 if it is none. */
    private static void bounds(String text, int low, int high) {
        int at = text.indexOf('#');
        int holds = text.contains("hold") ? 1 : 0;
        Edge.fine(put(text, low), holds);
        Edge.fine(put(text, high), holds);
        Edge.fine(put(text, (low < 10 ? "0" : "") + low), holds);
        if (low > 0) {
            Edge.faulty(put(text, low - 1), 2, at);
            Edge.faulty(put(text, "00"), 2, at);
        }
        Edge.faulty(put(text, high + 1), 2, at);
        Edge.faulty(put(text, 100), 2, at);
        Edge.faulty(put(text, "0" + (low < 10 ? "0" : "") + low), 2, at);
        Edge.faulty(put(text, "0000000000" + low), 2, at);
        Edge.faulty(put(text, "99999999999999999999"), 2, at);
        Edge.faulty(put(text, "4294967297"), 2, at);
        Edge.faulty(put(text, "-1"), 1, at);
        Edge.faulty(put(text, "peg"), 1, at);
        Edge.faulty(put(text, ";"), 1, at);
        Edge.faulty(text.substring(0, at), 1, at);
    }

    private static void clothNumbers() {
        Edge.of("Terms 1", "'cloth' C A D G L: CELL, A, D 1 .. 8 each, G 1 .. 9, L 1 .. 9");
        bounds("cloth # 1 1 1 1;", 0, 63);
        bounds("cloth 0 # 1 1 1;", 1, 8);
        bounds("cloth 0 1 # 1 1;", 1, 8);
        bounds("cloth 0 1 1 # 1;", 1, 9);
        bounds("cloth 0 1 1 1 #;", 1, 9);
        for (int value : new int[] {1, 9}) {
            ChairDen x = Check.den(put("thing 0 20 99 99 9; cloth 0 1 2 # 1; hold 0 0 trapped;", value));
            Edge.due("G " + value + ": hold(0, 6)", x.hold(0, 6), 2 * value);
            x = Check.den(put("thing 0 20 99 99 9; cloth 0 1 2 1 #; hold 0 0 trapped;", value));
            Edge.due("L " + value + ": hangs(0, 1)", x.hangs(0, 1), 20 - value);
        }
        for (int value : new int[] {1, 8}) {
            ChairDen x = Check.den(put("cloth 0 # 1 1 1;", value));
            Edge.due("A " + value + ": the last", x.hangs(0, 8 * value - 8), 0);
            Edge.due("A " + value + ": beyond", x.hangs(0, 1), ChairDen.NONE);
            Edge.due("A " + value + ": behind", value == 8 ? ChairDen.NONE : x.hangs(0, 8 * value), ChairDen.NONE);
            x = Check.den(put("cloth 0 1 # 1 1;", value));
            Edge.due("D " + value + ": the last", x.hangs(0, value - 1), 0);
            Edge.due("D " + value + ": beyond", x.hangs(0, value), ChairDen.NONE);
        }
        ChairDen x = Check.den("cloth 63 1 1 1 1;");
        Edge.due("C 63: hangs(0, 63)", x.hangs(0, 63), 0);
        Edge.due("C 63: hangs(0, 62)", x.hangs(0, 62), ChairDen.NONE);
    }

    private static void holdNumbers() {
        Edge.of("Terms 1", "'hold' K T how: laid, peg, book N, tied, trapped (N 1 .. 99: the book's weight)");
        String one = TWO + "hold 0 0 ";
        bounds(one + "book #;", 1, 99);
        String[] kinds = {"laid", "peg", "book 1", "tied", "trapped"};
        for (int how = 0; how < 5; how++) {
            ChairDen x = Edge.fine(one + kinds[how] + ";", 1);
            Edge.due("hold(0, 2) of " + kinds[how], x.hold(0, 2), how);
            Edge.due("hold(0, 3) of " + kinds[how], x.hold(0, 3), how == 2 ? 1 : 0);
        }
        Edge.due("hold(0, 3) of book 99", Edge.fine(one + "book 99;", 1).hold(0, 3), 99);
        int n = one.length();
        Edge.faulty(one + "book;", 1, n + 4);
        for (String other : new String[] {"laid", "peg", "tied", "trapped"}) {
            Edge.faulty(one + other + " 5;", 1, n + other.length() + 1);
        }
    }

    private static void lightNumbers() {
        Edge.of("Terms 1", "'light' N M (N 0 .. 99, M 1 .. 20; 60 10 untold; once)");
        bounds("light # 1;", 0, 99);
        bounds("light 1 #;", 1, 20);
        for (int value : new int[] {0, 99}) {
            Edge.due("N " + value + ": light(63)", Check.den(put("light # 1;", value)).light(63), value);
        }
        for (int value : new int[] {1, 20}) {
            Edge.due("M " + value + ": light(0)", Check.den(put("cloth 0 1 1 1 1; light 99 #;", value)).light(0), 99 - value);
        }
        ChairDen x = Check.den("cloth 0 1 1 1 1;");
        Edge.due("untold: light(63)", x.light(63), 60);
        Edge.due("untold: light(0)", x.light(0), 50);
        Check.feed(x, "light 9 9;");
        Edge.due("told: den()", x.den(), 0);
        Edge.due("told: light(63)", x.light(63), 9);
        Check.feed(x, "cloth 0 1 1 1 1;");
        Edge.due("untold again: den()", x.den(), 0);
        Edge.due("untold again: light(63)", x.light(63), 60);
        Edge.due("untold again: light(0)", x.light(0), 50);
    }

    private static void withinTheFloor() {
        Edge.of("Terms 1", "A rows down and D places on, within THE FLOOR; 5 a CLOTH that is not (at its D)");
        for (int c = 0; c < 64; c++) {
            for (int a = 1; a <= 8; a++) {
                for (int d = 1; d <= 8; d++) {
                    String text = "cloth " + c + " " + a + " " + d + " 1 1;";
                    boolean within = c / 8 + a <= 8 && c % 8 + d <= 8;
                    ChairDen x = new ChairDen();
                    Check.feed(x, text);
                    Edge.due("den() of '" + text + "'", x.den(), within ? 0 : -15);
                    Edge.due("fault() of '" + text + "'", x.fault(), within ? ChairDen.NONE : text.length() - 6);
                }
            }
        }
        Edge.faulty("cloth 7 1 2 1 1;", 5, 10);
        Edge.faulty("cloth 56 2 1 1 1;", 5, 11);
        // What is behind the D is not looked at then.
        Edge.faulty("cloth 7 1 2", 5, 10);
        Edge.faulty("cloth 7 1 2 10 peg", 5, 10);
    }

    private static void told() {
        Edge.of("Terms 1", "2 THINGS, CLOTHS that were not told yet (at its first)");
        int n = TWO.length();
        Edge.fine(TWO + "hold 0 0 peg;", 1);
        Edge.faulty(TWO + "hold 1 0 peg;", 2, n + 5);
        Edge.faulty(TWO + "hold 3 0 peg;", 2, n + 5);
        Edge.faulty(TWO + "hold 99 0 peg;", 2, n + 5);
        Edge.faulty(TWO + "hold 0 2 peg;", 2, n + 7);
        Edge.faulty(TWO + "hold 0 8 peg;", 2, n + 7);
        Edge.faulty(TWO + "hold 0 99 peg;", 2, n + 7);
        Edge.faulty(TWO + "hold 000 0 peg;", 2, n + 5);
        Edge.faulty(TWO + "hold 0 000 peg;", 2, n + 7);
        // Yet: what is told behind it does not count.
        Edge.faulty(CLOTH + "hold 0 0 peg;" + THING, 2, 23);
        Edge.faulty(THING + "hold 0 0 peg;" + CLOTH, 2, 24);
        Edge.faulty("bar 0;" + THING, 2, 4);
        Edge.fine(TWO + "bar 1;", 0);
        Edge.faulty(TWO + "bar 2;", 2, n + 4);
        Edge.faulty(TWO + "bar 001;", 2, n + 4);
    }

    private static void pairs() {
        Edge.of("Terms 1", "each pair once; 3 a pair told again (at the T)");
        String one = TWO + CLOTH + "thing 1 1 1 0 1;hold 0 0 peg;";
        int n = one.length();
        Edge.faulty(one + "hold 0 0 peg;", 3, n + 7);
        Edge.faulty(one + "hold 00 00 laid;", 3, n + 8);
        Edge.faulty(one + "hold 0 0", 3, n + 7);
        Edge.faulty(one + "hold 0 0 mud", 3, n + 7);
        // Either of the two alone may be told again.
        Edge.fine(one + "hold 1 0 peg;", 2);
        Edge.fine(one + "hold 0 2 peg;", 2);
        Edge.fine(one + "hold 0 2 peg;hold 1 2 peg;hold 1 0 peg;", 4);
        Edge.faulty(one + "hold 0 2 peg;hold 1 2 peg;hold 1 0 peg;hold 1 2 tied;", 3, n + 46);
        Edge.of("Terms 1", "3 a CELL on which a THING is already (at it)");
        Edge.faulty(THING + "thing 0 1 1 0 1;", 3, 25);
        Edge.faulty(THING + "thing 00 1 1 0 1;", 3, 25);
        Edge.faulty(THING + "thing  0", 3, 26);
        Edge.faulty(THING + "thing 0 0 0 100 0", 3, 25);
        Edge.fine(THING + "thing 1 1 1 0 1;", 0);
        Edge.faulty("thing 63 1 1 0 1;thing 62 1 1 0 1;thing 63 1 1 0 1;", 3, 40);
        // A thing of a den before is not there any more.
        ChairDen x = Check.den(THING);
        Check.feed(x, THING);
        Edge.due("den() once more", x.den(), 0);
    }

    private static void lyingUnder() {
        Edge.of("Terms 1", "whose CELL lies under it; 3 a THING that does not lie under the CLOTH (at the T)");
        int[] corners = {18, 21, 42, 45};
        int[] outside = {10, 17, 13, 22, 41, 50, 46, 53};
        for (int c : corners) {
            Edge.fine("thing " + c + " 1 1 0 1;cloth 18 4 4 1 1;hold 0 0 peg;", 1);
        }
        for (int c : outside) {
            Edge.faulty("thing " + c + " 1 1 0 1;cloth 18 4 4 1 1;hold 0 0 peg;", 3, 41);
        }
        // A row's end is not the next one's begin.
        Edge.fine("thing 7 1 1 0 1;cloth 7 1 1 1 1;hold 0 0 peg;", 1);
        Edge.faulty("thing 8 1 1 0 1;cloth 7 1 1 1 1;hold 0 0 peg;", 3, 39);
        Edge.faulty("thing 7 1 1 0 1;cloth 8 1 1 1 1;hold 0 0 peg;", 3, 39);
        Edge.fine("thing 63 1 1 0 1;cloth 0 8 8 1 1;hold 0 0 peg;", 1);
    }

    private static void bars() {
        Edge.of("Terms 1", "'bar' T: nothing may be held on that THING; 3 one that is barred, a bar of one that has HOLDS (at the T)");
        String two = TWO + "thing 1 1 1 0 1;";
        int n = two.length();
        Edge.faulty(two + "bar 0;hold 0 0 peg;", 3, n + 13);
        Edge.fine(two + "bar 1;hold 0 0 peg;", 1);
        Edge.fine(two + "bar 0;hold 0 2 peg;", 1);
        Edge.faulty(two + "hold 0 0 peg;bar 0;", 3, n + 17);
        Edge.faulty(two + "hold 0 0 peg;bar  00", 3, n + 18);
        Edge.fine(two + "hold 0 0 peg;bar 1;bar 2;", 1);
        Edge.faulty(two + "hold 0 2 peg;bar 0;bar 2;", 3, n + 23);
        // It is not said to be told once.
        Edge.fine(two + "bar 0;bar 0;", 0);
        // One bar takes none of another away.
        Edge.faulty(two + "bar 0;bar 2;hold 0 0 peg;", 3, n + 19);
        Edge.faulty(two + "bar 0;bar 2;hold 0 2 peg;", 3, n + 19);
        // A bar is gone with its den.
        ChairDen x = Check.den(two + "bar 0;");
        Check.feed(x, two + "hold 0 0 peg;");
        Edge.due("den() without the bar", x.den(), 1);
    }

    private static void once() {
        Edge.of("Terms 1", "3 what may be told once (at the clause's first letter)");
        Edge.fine("light 60 10;", 0);
        Edge.faulty("light 60 10;light 60 10;", 3, 12);
        Edge.faulty("light 60 10; light", 3, 13);
        Edge.faulty("light 0 1;light 100 0;", 3, 10);
        Edge.faulty("light 0 1;" + THING + "light 5 5;", 3, 29);
        Edge.faulty("light 0 1;lights 5 5;", 1, 10);
        ChairDen x = Check.den("light 5 5;");
        Check.feed(x, "light 6 6;");
        Edge.due("den() of another", x.den(), 0);
        Edge.due("light(0)", x.light(0), 6);
        // A light of a text with a fault was not told.
        Check.feed(x, "light 7 7; mud");
        Edge.due("den() with a fault", x.den(), -11);
        Check.feed(x, "light 8 8;");
        Edge.due("den() behind it", x.den(), 0);
        Edge.due("light(0)", x.light(0), 8);
    }

    private static void figures() {
        Edge.of("Terms 1", "NUMBERS have one or two figures; 2 a NUMBER of three figures or more");
        Edge.due("one figure", Edge.fine("thing 5 1 1 0 1;", 0).thing(0, 0), 5);
        Edge.due("two figures", Edge.fine("thing 05 1 1 0 1;", 0).thing(0, 0), 5);
        Edge.faulty("thing 005 1 1 0 1;", 2, 6);
        Edge.faulty("thing 0000000005 1 1 0 1;", 2, 6);
        Edge.due("a blank parts them", Edge.fine("thing 0 5 1 0 1;", 0).thing(0, 1), 5);
        Edge.faulty("thing 9 1 1 0 001;", 2, 14);
        ChairDen x = new ChairDen();
        Check.feed(x, "thing ");
        Edge.fill(x, 494, '1');
        Edge.due("den() of a number of 494 figures", x.den(), -12);
        Edge.due("then fault()", x.fault(), 6);
    }

    private static void words() {
        Edge.of("Terms 1", "1 a word that cannot stand there: at its first letter");
        String[] clauses = {"thing 9 1 1 0 1;", "cloth 9 1 1 1 1;", "light 1 1;", "bar 0;", "hold 0 0 peg;"};
        for (String clause : clauses) {
            int end = clause.indexOf(' ');
            String word = clause.substring(0, end);
            for (String other : otherWords(word)) {
                Edge.faulty(THING + CLOTH + other + clause.substring(end), 1, 35);
            }
        }
        for (String word : new String[] {"laid", "peg", "book", "tied", "trapped"}) {
            for (String other : otherWords(word)) {
                Edge.faulty(THING + CLOTH + "hold 0 0 " + other + " 5;", 1, 44);
            }
        }
        Edge.faulty("bar bar;", 1, 4);
        Edge.faulty("laid 0 0;", 1, 0);
        Edge.faulty(THING + "bar 0 ; room 5", 1, 27);
    }

    /** Words that are nearly this one, all of them none at its first letter. */
    private static String[] otherWords(String word) {
        int n = word.length();
        return new String[] {word.substring(0, n - 1), word + "a", word + "z", word + "s", word + word, "x" + word,
            word.substring(0, 1).toUpperCase() + word.substring(1), word.substring(0, 1) + " " + word.substring(1),
            "a" + word.substring(1), word.substring(0, n - 1) + "z", word.substring(0, n - 1) + "`"};
    }

    private static void signs() {
        Edge.of("Terms 1", "letters a .. z, blanks (32): every other byte cannot stand there");
        for (int b = 0; b < 256; b++) {
            ChairDen x = new ChairDen();
            Edge.due("feed of byte " + b, x.feed(1, b), 1);
            Edge.due("den() of byte " + b + " alone", x.den(), b == 32 ? 0 : -11);
            Edge.due("fault() of byte " + b + " alone", x.fault(), b == 32 ? ChairDen.NONE : 0);
            // Behind the NUMBER of a bar: a blank, its end, a second figure; else it cannot stand there.
            Check.feed(x, THING + "bar 0");
            x.feed(2, b << 8 | ';');
            boolean ends = b == ' ' || b == '0';
            boolean figure = b >= '1' && b <= '9';
            Edge.due("den() of bar 0 and byte " + b, x.den(), ends ? 0 : figure ? -12 : -11);
            Edge.due("fault() of bar 0 and byte " + b, x.fault(), ends ? ChairDen.NONE : figure ? 23 : b == ';' ? 25 : 24);
            // Within the word of one: a letter makes another word of it, whatever else parts it.
            Check.feed(x, THING + "ba");
            x.feed(1, b);
            Check.feed(x, " 0;");
            Edge.due("den() of ba and byte " + b, x.den(), b == 'r' ? 0 : -11);
            Edge.due("fault() of ba and byte " + b, x.fault(), b == 'r' ? ChairDen.NONE : 19);
        }
    }

    private static void blanks() {
        Edge.of("Terms 1", "blanks may stand anywhere but within words and NUMBERS; two words, two NUMBERS side by side need one");
        ChairDen x = Edge.fine("thing0 10 50 50 5;cloth0 1 8 1 1;hold0 0book7;light5 1;thing1 1 1 0 1;bar1;", 1);
        Edge.due("hold(0, 3)", x.hold(0, 3), 7);
        x = Edge.fine("   thing   0   10   50   50   5   ;   cloth   0   1   8   1   1   ;   hold   0   0   book   7   ;"
            + "   light   5   1   ;   thing   1   1   1   0   1   ;   bar   1   ;   ", 1);
        Edge.due("hold(0, 3)", x.hold(0, 3), 7);
        Edge.due("count(0)", x.count(0), 2);
        Edge.faulty("th ing 0 1 1 0 1;", 1, 0);
        Edge.faulty("thing 0 1 1 0 1; b ar 0;", 1, 17);
        Edge.faulty("thing 1 9 1 1 0 1;", 2, 14);
        Edge.faulty("thing 010 50 50 5;", 2, 6);
        Edge.faulty("thing 0 1050 50 5;", 2, 8);
        Edge.faulty(TWO + "hold 00 peg;", 1, TWO.length() + 8);
        Edge.faulty(TWO + "hold 0 0 bo ok 7;", 1, TWO.length() + 9);
        Edge.faulty(TWO + "hold 0 0 book 1 7;", 1, TWO.length() + 16);
        Edge.faulty("thingcloth 0 1 1 0 1;", 1, 0);
        Edge.faulty("thing\t0 1 1 0 1;", 1, 5);
        Edge.faulty("thing 0 1 1 0 1\n;", 1, 15);
    }

    private static void firstFault() {
        Edge.of("Terms 1", "FAULTS, at the first byte that has one");
        Edge.faulty("thing 0 21 100 0 0;", 2, 8);
        Edge.faulty(THING + "thing 0 21 1 0 1;", 3, 25);
        Edge.faulty(THING + "thing 1 21 1 0 1; thing 0", 2, 27);
        Edge.faulty("cloth 1 1 8 10 10;", 5, 10);
        Edge.faulty("cloth 64 1 8 10 10;", 2, 6);
        Edge.faulty("cloth 1 9 8 10 10;", 2, 8);
        Edge.faulty("cloth 0 1 8 10 1; thing 64", 2, 12);
        Edge.faulty(TWO + "hold 1 5 mud", 2, TWO.length() + 5);
        Edge.faulty(TWO + "hold 0 1 mud", 3, TWO.length() + 7);
        Edge.faulty(TWO + "hold 0 0 mud 100", 1, TWO.length() + 9);
        Edge.faulty("light 100 0; light", 2, 6);
        Edge.faulty("light 1 1; light 1 1; thing 64", 3, 11);
        Edge.faulty("? thing 64", 1, 0);
    }

    private static void leastFault() {
        Edge.of("Terms 1", "of these the least");
        // 1 ahead of 2: a NUMBER of three figures where none can stand.
        Edge.faulty("100", 1, 0);
        Edge.faulty(THING + "100", 1, 19);
        Edge.faulty("thing 0 1 1 0 1 100;", 1, 16);
        Edge.faulty(TWO + "hold 0 0 100;", 1, TWO.length() + 9);
        // 1 ahead of 3 and of 4: a word that is none, where one too many would begin.
        Edge.faulty("light 1 1;lighted 1 1;", 1, 10);
        Edge.faulty(things(8) + "thin 8 1 1 0 1;", 1, things(8).length());
        Edge.faulty(CLOTH + CLOTH + CLOTH + "clothe 0 1 1 1 1;", 1, 48);
        // 2 ahead of 3: of three figures, and a cell, a pair, a barred one in value.
        Edge.faulty(THING + "thing 000 1 1 0 1;", 2, 25);
        Edge.faulty(TWO + "hold 0 0 peg;hold 0 000 peg;", 2, TWO.length() + 20);
        Edge.faulty(TWO + "bar 0;hold 0 000 peg;", 2, TWO.length() + 13);
        Edge.faulty(TWO + "hold 0 0 peg;bar 000;", 2, TWO.length() + 17);
        // 2 ahead of 5: a D out of its bounds is not within the floor either; 1 ahead of both.
        Edge.faulty("cloth 0 1 9 1 1;", 2, 10);
        Edge.faulty("cloth 63 8 0 1 1;", 2, 11);
        Edge.faulty("cloth 63 8 001 1 1;", 2, 11);
        Edge.faulty("cloth 63 8 peg 1 1;", 1, 11);
        Edge.faulty("cloth 63 8", 1, 10);
    }

    private static void theEnd() {
        Edge.of("Terms 1", "the end at the text's length");
        String[] clauses = {"thing|1|2|3|4|5|;", "cloth|0|1|8|1|1|;", "hold|0|0|book|7|;", "hold|0|0|peg|;", "light|5|5|;", "bar|1|;"};
        for (String clause : clauses) {
            String[] parts = clause.split("\\|");
            String text = TWO;
            for (int i = 0; i < parts.length - 1; i++) {
                text += (i == 0 ? "" : " ") + parts[i];
                Edge.faulty(text, 1, text.length());
                Edge.faulty(text + "   ", 1, text.length() + 3);
            }
            Edge.fine(text + ";", clause.startsWith("hold") ? 1 : 0);
        }
        Edge.faulty("t", 1, 0);
        Edge.faulty(";", 1, 0);
        Edge.faulty(THING + ";", 1, 19);
        Edge.faulty(THING + " ; ", 1, 20);
    }

    private static void emptyTexts() {
        Edge.of("Terms 1", "An empty text (or one of blanks alone) has no FAULT: nothing is on THE FLOOR");
        for (int blanks : new int[] {0, 1, 7, 8, 9, 499, 500}) {
            ChairDen x = Edge.rich();
            Edge.fill(x, blanks, ' ');
            Edge.due("den() of " + blanks + " blanks", x.den(), 0);
            Edge.due("fault()", x.fault(), ChairDen.NONE);
            for (int what : new int[] {0, 1, 2, 3, 5, 6}) {
                Edge.due("count(" + what + ")", x.count(what), 0);
            }
            Edge.due("height(9)", x.height(9), ChairDen.NONE);
            Edge.due("light(9)", x.light(9), 60);
            Edge.due("stands()", x.stands(), 1);
        }
    }

    private static void boundsOfWant(String text, int low, int high) {
        int at = text.indexOf('#');
        Edge.fineWant(put(text, low));
        Edge.fineWant(put(text, high));
        Edge.fineWant(put(text, (low < 10 ? "0" : "") + low));
        if (low > 0) {
            Edge.faultyWant(put(text, low - 1), 2, at);
        }
        Edge.faultyWant(put(text, high + 1), 2, at);
        Edge.faultyWant(put(text, "0" + (low < 10 ? "0" : "") + low), 2, at);
        Edge.faultyWant(put(text, "999999999999999999"), 2, at);
        Edge.faultyWant(put(text, "-1"), 1, at);
        Edge.faultyWant(put(text, "x"), 1, at);
        Edge.faultyWant(text.substring(0, at), 1, at);
        Edge.faultyWant(text.substring(0, at - 1), 1, at - 1);
    }

    private static void wantNumbers() {
        Edge.of("Terms 4", "WANTS: N 0 .. 64, H 1 .. 20, D 0 .. 99; FAULTS 1, 2 as told");
        boundsOfWant("room #", 0, 64);
        boundsOfWant("room 5 high #", 1, 20);
        boundsOfWant("room 5 dark #", 0, 99);
        boundsOfWant("room 5 high 20 dark #", 0, 99);
        Edge.of("Terms 4", "WANTS: 'room' N has to be told");
        Edge.faultyWant("", 1, 0);
        Edge.faultyWant(" ", 1, 1);
        Edge.faultyWant("5", 1, 0);
        Edge.faultyWant("high 5", 1, 0);
        Edge.faultyWant("stands", 1, 0);
        Edge.faultyWant(";", 1, 0);
        for (String other : otherWords("room")) {
            Edge.faultyWant(other + " 5", 1, 0);
        }
    }

    private static void wantParts() {
        Edge.of("Terms 4", "WANTS: ['high' H] ['dark' D] ['door'] ['stands']");
        String[] parts = {" high 7", " dark 7", " door", " stands"};
        for (int set = 0; set < 16; set++) {
            StringBuilder text = new StringBuilder("room 5");
            for (int i = 0; i < 4; i++) {
                text.append((set >> i & 1) != 0 ? parts[i] : "");
            }
            Edge.fineWant(text.toString());
        }
        // Not another way round, and none of them twice.
        for (int i = 0; i < 4; i++) {
            for (int j = 0; j <= i; j++) {
                Edge.faultyWant("room 5" + parts[i] + parts[j], 1, 7 + parts[i].length());
            }
        }
        for (String part : new String[] {"high", "dark", "door", "stands"}) {
            for (String other : otherWords(part)) {
                Edge.faultyWant("room 5 " + other, 1, 7);
            }
        }
        Edge.fineWant("room5high7dark7door stands");
        Edge.faultyWant("room5high7dark7doorstands", 1, 15);
        Edge.fineWant("  room  5  high  7  dark  7  door  stands  ");
    }

    private static void wantBehind() {
        Edge.of("Terms 4", "WANTS: also what stands behind: 1");
        Edge.faultyWant("room 5;", 1, 6);
        Edge.faultyWant("room 5 6", 1, 7);
        Edge.faultyWant("room 5 100", 1, 7);
        Edge.faultyWant("room 5 stands;", 1, 13);
        Edge.faultyWant("room 5 stands room 5", 1, 14);
        Edge.faultyWant("room 5 high 7 8", 1, 14);
        Edge.faultyWant("room 5 door\t", 1, 11);
        Edge.faultyWant("room 5 peg", 1, 7);
    }

    private static void wantLength() {
        Edge.of("Promise 4", "NOT: more than 60 bytes .. (THE TEXT stays)");
        ChairDen x = new ChairDen();
        Check.feed(x, "room 5");
        Edge.fill(x, 48, ' ');
        Check.feed(x, "stands");
        Edge.due("count(6)", x.count(6), 60);
        Edge.due("want() of 60 bytes", x.want(), 0);
        Check.feed(x, "room 5");
        Edge.fill(x, 54, ' ');
        x.feed(1, '?');
        Edge.due("want() of 61 bytes with a fault", x.want(), ChairDen.NOT);
        Edge.still(() -> wantOf(61), "want() of 61 bytes", ChairDen.NOT, ChairDen::want);
        Edge.still(() -> wantOf(500), "want() of 500 bytes", ChairDen.NOT, ChairDen::want);
        Edge.due("want() of 60 bytes", wantOf(60).want(), 2);
        Edge.due("want() of 59 bytes", wantOf(59).want(), 2);
        Edge.of("Terms", "REFUSALS, of several the first in this order: NOT ahead of FULL");
        Edge.still(() -> fourWants(61), "a fifth want() of 61 bytes", ChairDen.NOT, ChairDen::want);
        Edge.still(() -> fourWants(60), "a fifth want() of 60 bytes", ChairDen.FULL, ChairDen::want);
    }

    private static ChairDen wantOf(int bytes) {
        ChairDen x = Edge.rich();
        Check.feed(x, "room 1");
        Edge.fill(x, bytes - 6, ' ');
        return x;
    }

    private static ChairDen fourWants(int bytes) {
        ChairDen x = Edge.rich();
        Edge.want(x, "room 3");
        Edge.want(x, "room 4");
        Check.feed(x, "mud");
        Edge.fill(x, bytes - 3, ' ');
        return x;
    }

    private static void wantFour() {
        Edge.of("Promise 4", "its number; FULL (THE TEXT stays)");
        ChairDen x = new ChairDen();
        for (int w = 0; w < 4; w++) {
            Edge.due("want() " + w, Edge.want(x, "room " + w), w);
            Edge.due("count(4)", x.count(4), w + 1);
            // One with a fault takes no place.
            Edge.due("want() with a fault", w == 3 ? -11 : Edge.want(x, "room"), -11);
        }
        Edge.due("a fifth want()", Edge.want(x, "room 5"), ChairDen.FULL);
        Edge.due("count(4)", x.count(4), 4);
        Edge.due("count(6)", x.count(6), 6);
        Edge.due("fault()", x.fault(), ChairDen.NONE);
        Edge.still(() -> fourWants(3), "a fifth want() with a fault", ChairDen.FULL, ChairDen::want);
        // The text that stayed is a den's beginning then.
        Check.feed(x, ";");
        Edge.due("den() of it", x.den(), -11);
        Edge.due("fault()", x.fault(), 0);
    }

    private static void wantEmpties() {
        Edge.of("Promise 4", "THE TEXT (it is empty then, with a FAULT, too)");
        ChairDen x = new ChairDen();
        Edge.due("want()", Edge.want(x, "room 5"), 0);
        Edge.due("count(6)", x.count(6), 0);
        Edge.due("want() with a fault", Edge.want(x, "room 65"), -12);
        Edge.due("count(6)", x.count(6), 0);
        Edge.due("count(4)", x.count(4), 1);
        Edge.due("want() of nothing", x.want(), -11);
        Edge.due("fault()", x.fault(), 0);
    }

    private static void faultPlaces() {
        Edge.of("Promise 5", "the byte that has the FAULT of the latest den() or want() that was not refused otherwise; NONE");
        ChairDen x = new ChairDen();
        Edge.due("fault() ahead of any", x.fault(), ChairDen.NONE);
        Edge.fill(x, 61, ' ');
        Edge.due("want()", x.want(), ChairDen.NOT);
        Edge.due("fault() behind a refusal", x.fault(), ChairDen.NONE);
        x.feed(1, '?');
        Edge.due("den()", x.den(), -11);
        Edge.due("fault()", x.fault(), 61);
        Edge.fill(x, 61, '?');
        Edge.due("want()", x.want(), ChairDen.NOT);
        Edge.due("fault() behind a refusal", x.fault(), 61);
        Edge.due("den()", x.den(), -11);
        Edge.due("fault() at the first byte", x.fault(), 0);
        for (int w = 0; w < 4; w++) {
            Edge.due("want()", Edge.want(x, "room 5"), w);
            Edge.due("fault() without one", x.fault(), ChairDen.NONE);
        }
        Edge.due("den()", x.den(), 0);
        Edge.due("den()", denOf(x, "bar"), -11);
        Edge.due("fault()", x.fault(), 3);
        Edge.due("want()", Edge.want(x, "room"), ChairDen.FULL);
        Edge.due("fault() behind a refusal", x.fault(), 3);
        Edge.due("feed(9, 0)", x.feed(9, 0), ChairDen.OUTSIDE);
        Edge.due("fault() behind another", x.fault(), 3);
    }

    private static int denOf(ChairDen x, String text) {
        Check.feed(x, text);
        return x.den();
    }

    private static void counts() {
        Edge.of("Promise 6", "How many: 0 THINGS .. 6 bytes of THE TEXT. OUTSIDE.");
        Edge.refused(Edge::richWithText, "count(#)", ChairDen.OUTSIDE, ChairDen::count, -1, 7, Edge.LOW, Edge.HIGH);
        ChairDen x = Edge.richWithText();
        int[] due = {4, 2, 4, 3, 2, 1, 26};
        for (int what = 0; what < 7; what++) {
            Edge.due("count(" + what + ")", x.count(what), due[what]);
        }
    }
}
