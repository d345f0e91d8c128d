import java.nio.charset.StandardCharsets;

/**
 * Promises 2 to 33, widely: many dens and texts, faulty ones too, and runs of calls by draws from
 * a fixed number, each answer held against Model. A first argument tells how many runs.
 */
public final class ModelTest {
    private static long state = 20261119L;
    private static ChairDen x;
    private static Model y;
    private static StringBuilder told;

    private static int draw(int n) {
        state = state * 6364136223846793005L + 1442695040888963407L;
        return (int) ((state >>> 33) % n);
    }

    private static int pick(int... of) {
        return of[draw(of.length)];
    }

    public static void main(String[] args) {
        int runs = args.length > 0 ? Integer.parseInt(args[0]) : 260;
        if (args.length > 1) {
            state = Long.parseLong(args[1]);
        }
        for (int run = 0; run < runs && Check.wrongSoFar() < 10; run++) {
            oneRun(run);
        }
        for (int i = 0; i < 60 && Check.wrongSoFar() < 10; i++) {
            oneTower();
        }
        Check.end();
    }

    /** Many light things, of which not all come into the tower, and of like heights several do. */
    private static void oneTower() {
        x = new ChairDen();
        y = new Model();
        told = new StringBuilder("tower: ");
        StringBuilder den = new StringBuilder();
        int heavy = 1 + draw(20);
        for (int t = 3 + draw(5); t >= 0; t--) {
            den.append("thing ").append(t).append(' ').append(1 + draw(4)).append(' ').append(1 + draw(heavy)).append(" 1 1;");
        }
        text(den.toString());
        both("den()", x.den(), y.den());
        int many = y.count(0) == 8 ? 1 : 8;
        for (int j = -1; j <= many; j++) {
            both("tower(" + j + ")", x.tower(j), y.tower(j));
        }
    }

    private static void oneRun(int run) {
        x = new ChairDen();
        y = new Model();
        told = new StringBuilder("run " + run + ": ");
        int most = pick(3, 4, 5, 7, 12);
        int calls = 0;
        if (draw(10) > 0) {
            text(denText(most));
            both("den()", x.den(), y.den());
        }
        while (calls < 90 && Check.wrongSoFar() < 10) {
            calls++;
            oneCall(most);
        }
    }

    private static void both(String call, long got, long want) {
        Check.due(told, call, got, want);
        told.append(call).append(' ');
        if (told.length() > 3000) {
            told.delete(0, 1000);
        }
    }

    private static void text(String text) {
        byte[] bytes = text.getBytes(StandardCharsets.ISO_8859_1);
        told.append('\'').append(text).append("' ");
        for (int i = 0; i < bytes.length; i += 8) {
            int n = Math.min(8, bytes.length - i);
            long packed = Check.packed(bytes, i, n);
            Check.due("feed", x.feed(n, packed), y.feed(n, packed));
        }
    }

    private static String blank() {
        return draw(12) == 0 ? "  " : " ";
    }

    /** A den that is mostly without a fault: heights, weights and rubs of all measures. */
    private static String denText(int mostHolds) {
        StringBuilder s = new StringBuilder();
        int things = pick(1, 2, 3, 4, 5, 6, 8);
        int cloths = pick(1, 1, 2, 3);
        int[] cells = new int[things];
        int[][] spans = new int[cloths][];
        boolean sturdy = draw(2) == 0;
        int rubs = sturdy ? pick(30, 100) : pick(1, 9, 30, 100);
        int heavy = pick(1, 2, 9);
        for (int k = 0; k < cloths; k++) {
            int a = 1 + draw(8), d = 1 + draw(8), row = draw(9 - a), place = draw(9 - d);
            spans[k] = new int[] {row, place, a, d};
            s.append("cloth").append(blank()).append(row * 8 + place).append(blank()).append(a).append(' ').append(d)
                .append(' ').append(1 + draw(heavy)).append(' ').append(1 + draw(sturdy ? pick(1, 2) : pick(1, 3, 9))).append(";");
        }
        for (int t = 0; t < things; t++) {
            boolean free = false;
            while (!free) {
                int[] span = spans[draw(cloths)];
                cells[t] = draw(5) == 0 ? draw(64) : (span[0] + draw(span[2])) * 8 + span[1] + draw(span[3]);
                free = true;
                for (int e = 0; e < t; e++) {
                    free &= cells[e] != cells[t] || draw(2000) == 0;
                }
                if (!free && draw(20) == 0) {
                    spans[0] = new int[] {0, 0, 8, 8};
                }
            }
            s.append("thing ").append(cells[t]).append(blank()).append(sturdy ? 2 + draw(12) : 1 + draw(pick(3, 12, 20))).append(' ')
                .append(sturdy ? 50 + draw(50) : 1 + draw(pick(9, 99))).append(' ').append(draw(rubs)).append(' ')
                .append(sturdy ? 3 + draw(7) : 1 + draw(9)).append(';');
        }
        if (draw(3) == 0) {
            s.append("light").append(draw(100)).append(' ').append(1 + draw(20)).append(';');
        }
        if (draw(8) == 0) {
            s.append("bar ").append(draw(things)).append(';');
        }
        int holds = 0;
        for (int i = 0; i < 60 && holds < mostHolds; i++) {
            int k = draw(cloths), t = draw(things);
            int[] span = spans[k];
            int row = cells[t] / 8 - span[0], place = cells[t] % 8 - span[1];
            boolean under = row >= 0 && row < span[2] && place >= 0 && place < span[3];
            boolean again = s.indexOf("hold " + k + " " + t) >= 0;
            if (under && !again && s.length() < 470 || draw(1500) == 0) {
                int how = draw(5);
                s.append("hold ").append(k).append(' ').append(t).append(draw(4) == 0 ? "" : " ")
                    .append(kind(how)).append(how == 2 ? String.valueOf(1 + draw(pick(30, 99))) : "").append(';');
                holds++;
            }
        }
        return draw(15) == 0 ? spoilt(s) : s.toString();
    }

    private static String kind(int how) {
        return new String[] {"laid", "peg", "book ", "tied", "trapped"}[how];
    }

    private static String wantText() {
        StringBuilder s = new StringBuilder("room " + draw(pick(4, 20, 65)));
        s.append(draw(3) > 0 ? " high " + (1 + draw(pick(2, 4, 20))) : "");
        s.append(draw(2) == 0 ? " dark " + draw(100) : "");
        s.append(draw(2) == 0 ? " door" : "").append(draw(2) == 0 ? " stands" : "");
        return draw(5) == 0 ? spoilt(s) : s.toString();
    }

    /** The text with some signs put in, taken out or changed. */
    private static String spoilt(StringBuilder s) {
        String signs = "  ;0123456789999aeghilnorst\u00e9A.";
        for (int i = 1 + draw(2); i > 0 && s.length() > 2; i--) {
            int at = draw(s.length());
            char sign = signs.charAt(draw(signs.length()));
            switch (draw(6)) {
                case 0: s.insert(at, sign); break;
                case 1: s.deleteCharAt(at); break;
                case 2: s.setCharAt(at, sign); break;
                case 3: s.setLength(at); break;
                case 4: s.insert(at, s.substring(at, Math.min(s.length(), at + 1 + draw(30)))); break;
                default: s.append(s.substring(at)); break;
            }
        }
        if (s.length() > 500) {
            s.setLength(500);
        }
        return s.toString();
    }

    private static int things() {
        return draw(25) == 0 ? pick(-1, 8, -7, 100, 1 << 30) : y.count(0) == 0 ? 0 : draw(y.count(0));
    }

    private static int holds() {
        return draw(25) == 0 ? pick(-1, 12, -7, 100, 1 << 30) : y.count(2) == 0 ? 0 : draw(y.count(2));
    }

    private static int strength() {
        return draw(25) == 0 ? pick(-1, 1000, 1 << 31, Integer.MAX_VALUE) : draw(pick(1, 10, 60, 100, 300, 1000));
    }

    private static int high() {
        return draw(25) == 0 ? pick(0, -1, 21, 1 << 31) : 1 + draw(pick(2, 4, 8, 20));
    }

    private static int cell() {
        return draw(25) == 0 ? pick(-1, 64, 1 << 31) : draw(64);
    }

    private static void oneCall(int most) {
        switch (draw(40)) {
            case 0: tellDen(most); break;
            case 1: tellWant(); break;
            case 2: both("fault()", x.fault(), y.fault()); break;
            case 3: { int a = draw(9) - 1; both("count(" + a + ")", x.count(a), y.count(a)); break; }
            case 4: case 5: { int a = things(), b = draw(11) - 1; both("thing(" + a + "," + b + ")", x.thing(a, b), y.thing(a, b)); break; }
            case 6: case 7: { int a = holds(), b = draw(9) - 1; both("hold(" + a + "," + b + ")", x.hold(a, b), y.hold(a, b)); break; }
            case 8: { int a = draw(5) - 1, b = cell(); both("hangs(" + a + "," + b + ")", x.hangs(a, b), y.hangs(a, b)); break; }
            case 9: { int a = draw(5) - 1, b = cell(); both("leans(" + a + "," + b + ")", x.leans(a, b), y.leans(a, b)); break; }
            case 10: { int a = cell(); both("height(" + a + ")", x.height(a), y.height(a)); break; }
            case 11: { int a = holds(), b = strength(); both("gives(" + a + "," + b + ")", x.gives(a, b), y.gives(a, b)); break; }
            case 12: case 13: { int a = things(), b = strength(); both("rest(" + a + "," + b + ")", x.rest(a, b), y.rest(a, b)); same(); break; }
            case 14: { int b = strength(); both("rest(-1," + b + ")", x.rest(-1, b), y.rest(-1, b)); same(); break; }
            case 15: { int a = draw(62) - 1, b = draw(4) - 1; both("event(" + a + "," + b + ")", x.event(a, b), y.event(a, b)); break; }
            case 16: both("stands()", x.stands(), y.stands()); break;
            case 17: { int a = things(), b = strength(); both("bears(" + a + "," + b + ")", x.bears(a, b), y.bears(a, b)); break; }
            case 18: { int a = things(); both("weakest(" + a + ")", x.weakest(a), y.weakest(a)); break; }
            case 19: { int a = high(), b = draw(6) - 1; both("room(" + a + "," + b + ")", x.room(a, b), y.room(a, b)); break; }
            case 20: { int a = high(); both("cells(" + a + ")", x.cells(a), y.cells(a)); break; }
            case 21: { int a = high(); both("rooms(" + a + ")", x.rooms(a), y.rooms(a)); break; }
            case 22: { int a = cell(); both("light(" + a + ")", x.light(a), y.light(a)); break; }
            case 23: case 24: tryMost(); break;
            default: moreCalls(); break;
        }
    }

    private static void moreCalls() {
        switch (draw(13)) {
            case 0: both("fewest()", x.fewest(), y.fewest()); break;
            case 1: case 2: { int a = draw(7) - 1, j = draw(10) - 2; boolean d = draw(2) == 0;
                both("order(" + a + "," + d + "," + j + ")", x.order(a, d, j), y.order(a, d, j)); break; }
            case 3: { int a = draw(20) == 0 ? pick(-1, 1 << 12, 1 << y.count(2)) : draw(1 << y.count(2));
                both("heap(" + a + ")", x.heap(a), y.heap(a)); break; }
            case 4: heaps(); break;
            case 5: { int a = things(), b = strength(); both("change(" + a + "," + b + ")", x.change(a, b), y.change(a, b)); break; }
            case 6: { int a = holds(), b = draw(7) - 1, n = draw(6) == 0 ? pick(0, 100, -5) : 1 + draw(99);
                both("fasten(" + a + "," + b + "," + n + ")", x.fasten(a, b, n), y.fasten(a, b, n)); break; }
            case 7: { int j = draw(11) - 2; if (y.count(0) < 8 || draw(9) == 0) { both("tower(" + j + ")", x.tower(j), y.tower(j)); } break; }
            case 8: { int a = draw(9) == 0 ? pick(-1, 4, 1 << 31) : draw(1 + y.count(4)); both("met(" + a + ")", x.met(a), y.met(a)); break; }
            case 9: { int a = draw(9) == 0 ? pick(-1, 1 << 31, Integer.MAX_VALUE) : draw(1 << 30); both("seed(" + a + ")", x.seed(a), y.seed(a)); break; }
            case 10: { int a = draw(12) == 0 ? pick(0, 21, 20) : 1 + draw(4), b = strength();
                both("bumps(" + a + "," + b + ")", x.bumps(a, b), y.bumps(a, b)); same(); break; }
            case 11: { int a = draw(9) == 0 ? pick(-1, 2, 1 << 31) : draw(2); both("keep(" + a + ")", x.keep(a), y.keep(a)); break; }
            default: { int a = draw(9) == 0 ? pick(-1, 2, 1 << 31) : draw(2); both("goBack(" + a + ")", x.goBack(a), y.goBack(a)); same(); break; }
        }
    }

    private static String lastDen = "";

    private static void tellDen(int most) {
        // Now and then the den before, with some signs changed: nothing of it may be remembered.
        String next = draw(9) == 0 ? "" : draw(3) == 0 ? spoilt(new StringBuilder(lastDen)) : denText(most);
        lastDen = next.length() > 20 ? next : lastDen;
        text(next);
        both("den()", x.den(), y.den());
        both("fault()", x.fault(), y.fault());
        same();
    }

    private static void tellWant() {
        text(draw(20) == 0 ? denText(3) : wantText());
        both("want()", x.want(), y.want());
        both("fault()", x.fault(), y.fault());
        both("count(6)", x.count(6), y.count(6));
    }

    private static void tryMost() {
        if (y.count(2) > 5 && y.count(2) < 8 && draw(12) > 0) {
            return;
        }
        int h = high(), p = draw(20) == 0 ? pick(-1, 13) : draw(pick(2, 5, 13)), q = draw(20) == 0 ? pick(-1, 13) : draw(pick(2, 5, 13));
        int k = draw(3) == 0 ? -1 : holds();
        both("most(" + h + "," + p + "," + q + "," + k + ")", x.most(h, p, q, k), y.most(h, p, q, k));
        both("most(" + h + "," + p + "," + q + ",-1)", x.most(h, p, q, -1), y.most(h, p, q, -1));
        if (y.count(2) < 4) {
            both("most(" + h + "," + p + ",0,-1)", x.most(h, p, 0, -1), y.most(h, p, 0, -1));
            both("most(" + h + ",0,0,-1)", x.most(h, 0, 0, -1), y.most(h, 0, 0, -1));
            both("most(1,0,0,-1)", x.most(1, 0, 0, -1), y.most(1, 0, 0, -1));
        }
    }

    /** Heaps that some hold leads to, which draws alone would seldom meet. */
    private static void heaps() {
        for (int set = 0; set < 1 << Math.min(5, y.count(2)); set++) {
            both("heap(" + set + ")", x.heap(set), y.heap(set));
        }
    }

    /** All that is so, against the model. */
    private static void same() {
        for (int what = 0; what < 7; what++) {
            both("count(" + what + ")", x.count(what), y.count(what));
        }
        for (int t = 0; t < y.count(0); t++) {
            for (int what = 0; what < 9; what++) {
                Check.due(told, "thing(" + t + "," + what + ")", x.thing(t, what), y.thing(t, what));
            }
        }
        for (int k = 0; k < y.count(2); k++) {
            for (int what = 0; what < 7; what++) {
                Check.due(told, "hold(" + k + "," + what + ")", x.hold(k, what), y.hold(k, what));
            }
        }
        for (int i = 0; i < y.count(5); i++) {
            Check.due(told, "event(" + i + ",0)", x.event(i, 0), y.event(i, 0));
            Check.due(told, "event(" + i + ",1)", x.event(i, 1), y.event(i, 1));
        }
    }
}
