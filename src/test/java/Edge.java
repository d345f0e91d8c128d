import java.util.ArrayList;
import java.util.List;

/**
 * What the tests of boundary cases share: the sentence of the document that a test is for, and
 * whether a call changed anything. An object is promised for 512 calls alone: so for each look at
 * all that can be seen two objects are made anew, one with the call and one without.
 */
final class Edge {
    /** How an object comes to be as it is ahead of the call in question. */
    interface Start {
        ChairDen made();
    }

    /** One call, or some. */
    interface Call {
        long on(ChairDen x);
    }

    /** Numbers beyond every bound, on both sides. */
    static final int LOW = Integer.MIN_VALUE, HIGH = Integer.MAX_VALUE;

    private static final int LOOKS = 6;
    private static final String DEN = "thing 9 10 50 20 5; thing 13 12 60 30 6; thing 41 8 70 40 4; thing 51 1 9 0 9;"
        + "cloth 9 5 5 1 1; cloth 40 2 6 2 2; hold 0 0 peg; hold 0 1 book 20; hold 0 2 laid; hold 1 2 tied;"
        + "light 70 12; bar 3;";

    private static String sentence = "";
    private static int sentences = 0;

    private Edge() {
    }

    /** What is checked from here on: where in the document it stands, and its words. */
    static void of(String where, String words) {
        sentence = where + ", '" + words + "': ";
        sentences++;
    }

    static void due(String call, long got, long want) {
        Check.due(sentence + call, got, want);
    }

    static void end() {
        System.out.println(sentences + " sentences");
        Check.end();
    }

    /** An object with events, wants, a seed, an image, a fault behind it; a thing lies, a hold gave. */
    static ChairDen rich() {
        ChairDen x = Check.den(DEN);
        want(x, "room 5 high 3 door");
        want(x, "room 0 stands");
        x.seed(77);
        x.keep(0);
        x.rest(3, 5);
        x.rest(3, 90);
        x.fasten(2, 2, 33);
        x.rest(1, 60);
        want(x, "room 9 high 3; ");
        return x;
    }

    /** The same, with a text that is a den. */
    static ChairDen richWithText() {
        ChairDen x = rich();
        Check.feed(x, "thing 5 6 7 8 9; light 3 4");
        return x;
    }

    static int want(ChairDen x, String text) {
        Check.feed(x, text);
        return x.want();
    }

    /** So many signs of this kind behind the text. */
    static void fill(ChairDen x, int many, char sign) {
        Check.feed(x, String.valueOf(sign).repeat(many));
    }

    /** The call answers so, and all that can be seen stays as it was. */
    static void still(Start start, String name, long due, Call call) {
        for (int look = 0; look < LOOKS; look++) {
            ChairDen x = start.made();
            due(name, call.on(x), due);
            same(name, x, start.made(), look);
        }
        ChairDen x = start.made();
        int before = x.fault();
        call.on(x);
        due(name + ", then fault()", x.fault(), before);
    }

    /** Many calls, one behind the other, all of them refused: all that can be seen stays as it was. */
    static void stillBehind(Start start, String name, List<Call> calls) {
        for (int from = 0; from < calls.size(); from += 60) {
            for (int look = 0; look < LOOKS; look++) {
                ChairDen x = start.made();
                for (int i = from; i < calls.size() && i < from + 60; i++) {
                    calls.get(i).on(x);
                }
                same(name + ", calls from " + from, x, start.made(), look);
            }
        }
    }

    /** Likewise for calls with each of some numbers, all of them refused so. */
    static void refused(Start start, String name, long due, IntCall call, int... numbers) {
        for (int n : numbers) {
            still(start, name.replace("#", String.valueOf(n)), due, x -> call.on(x, n));
        }
    }

    /** A call by a number. */
    interface IntCall {
        long on(ChairDen x, int n);
    }

    /** A text with a fault, as a den: it is told so and there, the text is gone, all else is as it was. */
    static void faulty(String text, int fault, int place) {
        for (int look = 0; look < LOOKS; look++) {
            ChairDen x = rich();
            Check.feed(x, text);
            due("den() of '" + text + "'", x.den(), -10 - fault);
            due("then fault()", x.fault(), place);
            same("den() of '" + text + "'", x, rich(), look);
        }
    }

    /** Likewise as a want. */
    static void faultyWant(String text, int fault, int place) {
        for (int look = 0; look < LOOKS; look++) {
            ChairDen x = rich();
            due("want() of '" + text + "'", want(x, text), -10 - fault);
            due("then fault()", x.fault(), place);
            same("want() of '" + text + "'", x, rich(), look);
        }
    }

    /** A den without a fault, with so many holds. */
    static ChairDen fine(String text, int holds) {
        ChairDen x = new ChairDen();
        Check.feed(x, text);
        due("den() of '" + text + "'", x.den(), holds);
        due("then fault()", x.fault(), ChairDen.NONE);
        due("then count(6)", x.count(6), 0);
        return x;
    }

    /** A want without a fault. */
    static ChairDen fineWant(String text) {
        ChairDen x = new ChairDen();
        due("want() of '" + text + "'", want(x, text), 0);
        due("then fault()", x.fault(), ChairDen.NONE);
        due("then count(6)", x.count(6), 0);
        return x;
    }

    private static void same(String name, ChairDen x, ChairDen y, int look) {
        List<Long> got = seen(x, look);
        List<Long> want = seen(y, look);
        due(name + ": changes nothing, look " + look + ": as many", got.size(), want.size());
        for (int i = 0; i < want.size() && i < got.size(); i++) {
            due(name + ": changes nothing, look " + look + ", answer " + i, got.get(i), want.get(i));
        }
    }

    private static List<Long> seen(ChairDen x, int look) {
        List<Long> all = new ArrayList<>();
        switch (look) {
            case 0: state(x, all); break;
            case 1: hanging(x, all); break;
            case 2: rooms(x, all); break;
            case 3: could(x, all); break;
            case 4: text(x, all); break;
            default: images(x, all); break;
        }
        return all;
    }

    private static void state(ChairDen x, List<Long> all) {
        for (int what = 0; what < 7; what++) {
            all.add((long) x.count(what));
        }
        for (int i = 0; i <= x.count(5); i++) {
            all.add((long) x.event(i, 0));
            all.add((long) x.event(i, 1));
        }
        for (int t = 0; t < 8; t++) {
            for (int what = 0; what < 9; what++) {
                all.add((long) x.thing(t, what));
            }
        }
        for (int k = 0; k < 12; k++) {
            for (int what = 0; what < 7; what++) {
                all.add((long) x.hold(k, what));
            }
        }
    }

    private static void hanging(ChairDen x, List<Long> all) {
        for (int cloth = 0; cloth < 3; cloth++) {
            for (int c = 0; c < 64; c++) {
                all.add((long) x.hangs(cloth, c));
                all.add((long) x.leans(cloth, c));
            }
        }
    }

    private static void rooms(ChairDen x, List<Long> all) {
        for (int c = 0; c < 64; c++) {
            all.add((long) x.height(c));
            all.add((long) x.light(c));
        }
        for (int h = 1; h <= 20; h++) {
            for (int what = 0; what < 4; what++) {
                all.add((long) x.room(h, what));
            }
            all.add(x.cells(h));
            all.add((long) x.rooms(h));
        }
    }

    private static void could(ChairDen x, List<Long> all) {
        for (int k = 0; k < 12; k++) {
            all.add((long) x.gives(k, 9));
            all.add((long) x.heap(1 << k));
        }
        for (int t = 0; t < 8; t++) {
            all.add((long) x.weakest(t));
            all.add((long) x.bears(t, 50));
            all.add((long) x.change(t, 50));
            all.add((long) x.tower(t));
            all.add((long) x.order(1, false, t));
            all.add((long) x.order(0, true, t));
        }
        for (int w = 0; w < 4; w++) {
            all.add((long) x.met(w));
        }
        all.add((long) x.stands());
        all.add((long) x.tower(ChairDen.NONE));
        all.add((long) x.fewest());
        all.add((long) x.most(5, 1, 1, ChairDen.NONE));
        all.add((long) x.most(5, 1, 1, 0));
    }

    /** What the text is, by what becomes of it. */
    private static void text(ChairDen x, List<Long> all) {
        all.add((long) x.count(6));
        all.add((long) x.feed(1, ';'));
        all.add((long) x.den());
        all.add((long) x.fault());
        for (int what = 0; what < 5; what++) {
            all.add((long) x.thing(0, what));
        }
        all.add((long) x.light(0));
    }

    /** The seed and the images, each with all that it brings back. */
    private static void images(ChairDen x, List<Long> all) {
        all.add((long) x.seed(1));
        for (int i = 0; i < 2; i++) {
            all.add((long) x.goBack(i));
            all.add((long) x.seed(2));
            state(x, all);
        }
    }
}
