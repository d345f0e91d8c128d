import java.util.ArrayList;
import java.util.List;

/**
 * The document once more, as slowly and plainly as it can be said: no memory of earlier answers,
 * every order tried, every bump tried. ModelTest holds ChairDen against it.
 */
final class Model {
    static final int NONE = -1, UNKNOWN = -1001, OUTSIDE = -1002, NOT = -1003, FULL = -1004;

    static final class Thing {
        int cell, h, w, r, b;
        boolean lies;
    }

    static final class Cloth {
        int corner, a, d, g, l;

        boolean over(int c) {
            int row = c / 8 - corner / 8;
            int place = c % 8 - corner % 8;
            return row >= 0 && row < a && place >= 0 && place < d;
        }
    }

    static final class Hold {
        int cloth, thing, how, n;
        boolean holds = true;
        boolean inHands = false;
    }

    static final class Den {
        final List<Thing> things = new ArrayList<>();
        final List<Cloth> cloths = new ArrayList<>();
        final List<Hold> holds = new ArrayList<>();
        int n = 60, m = 10;
        int barred = 0;
        boolean lightTold = false;

        Den copy() {
            Den x = new Den();
            for (Thing t : things) {
                Thing y = new Thing();
                y.cell = t.cell; y.h = t.h; y.w = t.w; y.r = t.r; y.b = t.b; y.lies = t.lies;
                x.things.add(y);
            }
            x.cloths.addAll(cloths);
            for (Hold k : holds) {
                Hold y = new Hold();
                y.cloth = k.cloth; y.thing = k.thing; y.how = k.how; y.n = k.n; y.holds = k.holds;
                x.holds.add(y);
            }
            x.n = n; x.m = m;
            return x;
        }

        int top(int c) {
            for (Thing t : things) {
                if (t.cell == c) {
                    return t.lies ? 1 : t.h;
                }
            }
            return 0;
        }

        boolean thingOn(int c) {
            return top(c) > 0;
        }

        boolean covered(int c) {
            for (Cloth k : cloths) {
                if (k.over(c)) {
                    return true;
                }
            }
            return false;
        }

        static int steps(int a, int b) {
            return Math.abs(a / 8 - b / 8) + Math.abs(a % 8 - b % 8);
        }

        int by(int hold, int c) {
            Thing t = things.get(holds.get(hold).thing);
            return top(t.cell) - cloths.get(holds.get(hold).cloth).l * steps(t.cell, c);
        }

        int hangs(int cloth, int c) {
            int best = Math.max(0, top(c));
            for (int k = 0; k < holds.size(); k++) {
                if (holds.get(k).holds && holds.get(k).cloth == cloth) {
                    best = Math.max(best, by(k, c));
                }
            }
            return best;
        }

        int leans(int cloth, int c) {
            int hangs = hangs(cloth, c);
            for (int k = 0; k < holds.size(); k++) {
                if (holds.get(k).holds && holds.get(k).cloth == cloth && by(k, c) == hangs) {
                    return k;
                }
            }
            return NONE;
        }

        /** What sums() answers, while one round looks at a state that does not change. */
        private int[][] known = null;

        /** Draw in rows, in places, and how much leans on it. */
        int[] sums(int hold) {
            if (known != null) {
                return known[hold];
            }
            Hold k = holds.get(hold);
            int[] all = new int[3];
            if (!k.holds) {
                return all;
            }
            int from = things.get(k.thing).cell;
            for (int c = 0; c < 64; c++) {
                if (cloths.get(k.cloth).over(c) && leans(k.cloth, c) == hold) {
                    all[0] += Integer.signum(c / 8 - from / 8) * cloths.get(k.cloth).g;
                    all[1] += Integer.signum(c % 8 - from % 8) * cloths.get(k.cloth).g;
                    all[2] += cloths.get(k.cloth).g;
                }
            }
            return all;
        }

        int draw(int hold) {
            int[] s = sums(hold);
            return Math.max(Math.abs(s[0]), Math.abs(s[1]));
        }

        boolean gives(int hold, int bump) {
            Hold k = holds.get(hold);
            if (!k.holds || k.inHands || k.how == 4) {
                return false;
            }
            int bears = k.how == 0 ? sums(hold)[2] * things.get(k.thing).r / 10
                : k.how == 1 ? 40 : k.how == 2 ? k.n * 2 : 80;
            return draw(hold) + bump > bears;
        }

        int[] pull(int thing) {
            int[] all = new int[2];
            for (int k = 0; k < holds.size(); k++) {
                if (holds.get(k).holds && holds.get(k).thing == thing) {
                    all[0] += sums(k)[0];
                    all[1] += sums(k)[1];
                }
            }
            return all;
        }

        int size(int thing, int bump) {
            int[] p = pull(thing);
            return Math.max(Math.abs(p[0]), Math.abs(p[1])) + bump;
        }

        boolean tips(int thing, int bump) {
            Thing t = things.get(thing);
            return !t.lies && size(thing, bump) * t.h > t.w * t.b;
        }

        /** The cell to which it slides, NONE. */
        int slides(int thing, int bump) {
            Thing t = things.get(thing);
            int heavy = t.w;
            for (int k = 0; k < holds.size(); k++) {
                Hold hold = holds.get(k);
                if (hold.holds && hold.thing == thing) {
                    heavy += sums(k)[2] + (hold.how == 2 ? hold.n : 0);
                }
            }
            if (size(thing, bump) <= heavy * t.r / 10) {
                return NONE;
            }
            int[] p = pull(thing);
            int dr = 0, dp = 0;
            if (p[0] == 0 && p[1] == 0) {
                dr = 1;
            } else if (Math.abs(p[1]) > Math.abs(p[0])) {
                dp = Integer.signum(p[1]);
            } else {
                dr = Integer.signum(p[0]);
            }
            int row = t.cell / 8 + dr, place = t.cell % 8 + dp;
            if (row < 0 || row > 7 || place < 0 || place > 7 || thingOn(row * 8 + place)) {
                return NONE;
            }
            return row * 8 + place;
        }

        /** One round: the event, or null. */
        int[] round(int bumped, int b) {
            int[][] all = new int[holds.size()][];
            for (int k = 0; k < holds.size(); k++) {
                all[k] = sums(k);
            }
            known = all;
            int[] event = roundOf(bumped, b);
            known = null;
            return event;
        }

        private int[] roundOf(int bumped, int b) {
            for (int k = 0; k < holds.size(); k++) {
                if (gives(k, holds.get(k).thing == bumped ? b : 0)) {
                    holds.get(k).holds = false;
                    return new int[] {0, k};
                }
            }
            for (int t = 0; t < things.size(); t++) {
                if (tips(t, t == bumped ? b : 0)) {
                    things.get(t).lies = true;
                    return new int[] {1, t};
                }
            }
            for (int t = 0; t < things.size(); t++) {
                int to = slides(t, t == bumped ? b : 0);
                if (to != NONE) {
                    things.get(t).cell = to;
                    for (Hold k : holds) {
                        if (k.thing == t && !cloths.get(k.cloth).over(to)) {
                            k.holds = false;
                        }
                    }
                    return new int[] {2, t};
                }
            }
            return null;
        }

        List<int[]> rest(int bumped, int b) {
            List<int[]> events = new ArrayList<>();
            for (int i = 0; i < 60; i++) {
                int[] event = round(i == 0 ? bumped : NONE, i == 0 ? b : 0);
                if (event == null) {
                    break;
                }
                events.add(event);
            }
            return events;
        }

        boolean bears(int t, int b) {
            return copy().rest(t, b).isEmpty();
        }

        /** Stands, holds in hands kept so. */
        boolean standsWithHands() {
            Den x = copy();
            for (int k = 0; k < holds.size(); k++) {
                x.holds.get(k).inHands = holds.get(k).inHands;
            }
            return x.rest(NONE, 0).isEmpty();
        }

        int height(int c) {
            int best = NONE;
            for (int k = 0; k < cloths.size(); k++) {
                if (cloths.get(k).over(c)) {
                    best = Math.max(best, hangs(k, c));
                }
            }
            return best;
        }

        int light(int c) {
            int least = 100;
            for (int e = 0; e < 64; e++) {
                if (!covered(e)) {
                    least = Math.min(least, steps(c, e));
                }
            }
            return Math.max(0, n - m * least);
        }

        List<List<Integer>> rooms(int h) {
            List<List<Integer>> all = new ArrayList<>();
            boolean[] seen = new boolean[64];
            for (int c = 0; c < 64; c++) {
                List<Integer> room = new ArrayList<>();
                fill(c, h, seen, room);
                if (!room.isEmpty()) {
                    all.add(room);
                }
            }
            return all;
        }

        private void fill(int c, int h, boolean[] seen, List<Integer> room) {
            if (seen[c] || thingOn(c) || !covered(c) || height(c) < h) {
                return;
            }
            seen[c] = true;
            room.add(c);
            for (int e = 0; e < 64; e++) {
                if (steps(c, e) == 1) {
                    fill(e, h, seen, room);
                }
            }
        }

        List<Integer> greatest(int h) {
            List<Integer> best = new ArrayList<>();
            for (List<Integer> room : rooms(h)) {
                if (room.size() > best.size()) {
                    best = room;
                }
            }
            return best;
        }

        int doors(List<Integer> room) {
            int many = 0;
            for (int c : room) {
                boolean door = false;
                for (int e = 0; e < 64; e++) {
                    door |= steps(c, e) == 1 && !thingOn(e) && !covered(e);
                }
                many += door ? 1 : 0;
            }
            return many;
        }

        int dark(List<Integer> room) {
            int best = NONE;
            for (int c : room) {
                best = Math.max(best, light(c));
            }
            return best;
        }

        Den heldAgain() {
            Den x = copy();
            for (Hold k : x.holds) {
                k.holds = x.cloths.get(k.cloth).over(x.things.get(k.thing).cell);
            }
            return x;
        }
    }

    static final class Want {
        int n, high = 5, dark = 99;
        boolean door, stands;
    }

    /** A word, a number or another sign of a text. */
    static final class Token {
        String text;
        int start;
        char kind;
    }

    private final StringBuilder text = new StringBuilder();
    private Den den = new Den();
    private List<int[]> events = new ArrayList<>();
    private final List<Want> wants = new ArrayList<>();
    private int fault = NONE;
    private long seed = 0;
    private final Den[] images = new Den[2];
    private final long[] seeds = new long[2];

    // reading

    private List<Token> tokens;
    private int next;
    private int faultNumber;
    private int faultPlace;

    private void split() {
        tokens = new ArrayList<>();
        int i = 0;
        while (i < text.length()) {
            char c = text.charAt(i);
            if (c == ' ') {
                i++;
                continue;
            }
            Token token = new Token();
            token.start = i;
            token.kind = c >= 'a' && c <= 'z' ? 'w' : c >= '0' && c <= '9' ? 'n' : c;
            i++;
            while (i < text.length() && (token.kind == 'w' || token.kind == 'n')) {
                char d = text.charAt(i);
                boolean more = token.kind == 'w' ? d >= 'a' && d <= 'z' : d >= '0' && d <= '9';
                if (!more) {
                    break;
                }
                i++;
            }
            token.text = text.substring(token.start, i);
            tokens.add(token);
        }
        Token end = new Token();
        end.start = text.length();
        end.kind = 'e';
        end.text = "";
        tokens.add(end);
        next = 0;
        faultNumber = 0;
        faultPlace = NONE;
    }

    private static final class Faulty extends Exception {
        private static final long serialVersionUID = 1;
    }

    private void blame(int number, int place) throws Faulty {
        faultNumber = number;
        faultPlace = place;
        throw new Faulty();
    }

    private int numberAt;

    private int number(int low, int high) throws Faulty {
        Token token = tokens.get(next);
        numberAt = token.start;
        if (token.kind != 'n') {
            blame(1, token.start);
        }
        if (token.text.length() > 2 || Integer.parseInt(token.text) < low
            || Integer.parseInt(token.text) > high) {
            blame(2, token.start);
        }
        next++;
        return Integer.parseInt(token.text);
    }

    private boolean word(String word) {
        if (tokens.get(next).text.equals(word)) {
            next++;
            return true;
        }
        return false;
    }

    private void clause(Den x) throws Faulty {
        Token first = tokens.get(next);
        next++;
        switch (first.text) {
            case "thing": {
                if (x.things.size() == 8) {
                    blame(4, first.start);
                }
                Thing t = new Thing();
                t.cell = number(0, 63);
                if (x.thingOn(t.cell)) {
                    blame(3, numberAt);
                }
                t.h = number(1, 20);
                t.w = number(1, 99);
                t.r = number(0, 99);
                t.b = number(1, 9);
                x.things.add(t);
                break;
            }
            case "cloth": {
                if (x.cloths.size() == 3) {
                    blame(4, first.start);
                }
                Cloth k = new Cloth();
                k.corner = number(0, 63);
                k.a = number(1, 8);
                k.d = number(1, 8);
                if (k.corner / 8 + k.a - 1 > 7 || k.corner % 8 + k.d - 1 > 7) {
                    blame(5, numberAt);
                }
                k.g = number(1, 9);
                k.l = number(1, 9);
                x.cloths.add(k);
                break;
            }
            case "hold": {
                if (x.holds.size() == 12) {
                    blame(4, first.start);
                }
                Hold k = new Hold();
                k.cloth = number(0, x.cloths.size() - 1);
                k.thing = number(0, x.things.size() - 1);
                for (Hold other : x.holds) {
                    if (other.cloth == k.cloth && other.thing == k.thing) {
                        blame(3, numberAt);
                    }
                }
                if (!x.cloths.get(k.cloth).over(x.things.get(k.thing).cell)
                    || (x.barred >> k.thing) % 2 == 1) {
                    blame(3, numberAt);
                }
                String[] kinds = {"laid", "peg", "book", "tied", "trapped"};
                k.how = NONE;
                for (int i = 0; i < 5; i++) {
                    if (k.how == NONE && word(kinds[i])) {
                        k.how = i;
                    }
                }
                if (k.how == NONE) {
                    blame(1, tokens.get(next).start);
                }
                k.n = k.how == 2 ? number(1, 99) : 0;
                x.holds.add(k);
                break;
            }
            case "light": {
                if (x.lightTold) {
                    blame(3, first.start);
                }
                x.lightTold = true;
                x.n = number(0, 99);
                x.m = number(1, 20);
                break;
            }
            case "bar": {
                int t = number(0, x.things.size() - 1);
                for (Hold k : x.holds) {
                    if (k.thing == t) {
                        blame(3, numberAt);
                    }
                }
                x.barred |= 1 << t;
                break;
            }
            default:
                blame(1, first.start);
        }
        if (tokens.get(next).kind != ';') {
            blame(1, tokens.get(next).start);
        }
        next++;
    }

    int feed(int n, long bytes) {
        if (n < 1 || n > 8) {
            return OUTSIDE;
        }
        if (text.length() + n > 500) {
            return FULL;
        }
        for (int i = n; i > 0; i--) {
            text.append((char) (bytes >> 8 * (i - 1) & 255));
        }
        return text.length();
    }

    int den() {
        split();
        text.setLength(0);
        Den x = new Den();
        try {
            while (tokens.get(next).kind != 'e') {
                clause(x);
            }
        } catch (Faulty f) {
            fault = faultPlace;
            return -10 - faultNumber;
        }
        fault = NONE;
        den = x;
        events = new ArrayList<>();
        images[0] = null;
        images[1] = null;
        return x.holds.size();
    }

    int want() {
        if (text.length() > 60) {
            return NOT;
        }
        if (wants.size() == 4) {
            return FULL;
        }
        split();
        text.setLength(0);
        Want want = new Want();
        try {
            if (!word("room")) {
                blame(1, tokens.get(next).start);
            }
            want.n = number(0, 64);
            if (word("high")) {
                want.high = number(1, 20);
            }
            if (word("dark")) {
                want.dark = number(0, 99);
            }
            want.door = word("door");
            want.stands = word("stands");
            if (tokens.get(next).kind != 'e') {
                blame(1, tokens.get(next).start);
            }
        } catch (Faulty f) {
            fault = faultPlace;
            return -10 - faultNumber;
        }
        fault = NONE;
        wants.add(want);
        return wants.size() - 1;
    }

    int fault() {
        return fault;
    }

    int count(int what) {
        switch (what) {
            case 0: return den.things.size();
            case 1: return den.cloths.size();
            case 2: return den.holds.size();
            case 3: return Integer.bitCount(holding(den));
            case 4: return wants.size();
            case 5: return events.size();
            case 6: return text.length();
            default: return OUTSIDE;
        }
    }

    private static int holding(Den x) {
        int set = 0;
        for (int k = 0; k < x.holds.size(); k++) {
            set |= x.holds.get(k).holds ? 1 << k : 0;
        }
        return set;
    }

    private boolean in(int i, List<?> list) {
        return i >= 0 && i < list.size();
    }

    int thing(int t, int what) {
        if (!in(t, den.things)) {
            return UNKNOWN;
        }
        Thing x = den.things.get(t);
        int[] all = {x.cell, x.h, x.w, x.r, x.b, x.lies ? 1 : 0, den.pull(t)[0], den.pull(t)[1], den.size(t, 0)};
        return what < 0 || what > 8 ? OUTSIDE : all[what];
    }

    int hold(int k, int what) {
        if (!in(k, den.holds)) {
            return UNKNOWN;
        }
        Hold x = den.holds.get(k);
        int[] all = {x.cloth, x.thing, x.how, x.n, x.holds ? 1 : 0, den.draw(k), den.sums(k)[2]};
        return what < 0 || what > 6 ? OUTSIDE : all[what];
    }

    int hangs(int cloth, int c) {
        if (!in(cloth, den.cloths) || c < 0 || c > 63) {
            return UNKNOWN;
        }
        return den.cloths.get(cloth).over(c) ? den.hangs(cloth, c) : NONE;
    }

    int leans(int cloth, int c) {
        if (!in(cloth, den.cloths) || c < 0 || c > 63) {
            return UNKNOWN;
        }
        return den.cloths.get(cloth).over(c) ? den.leans(cloth, c) : NOT;
    }

    int height(int c) {
        return c < 0 || c > 63 ? UNKNOWN : den.height(c);
    }

    private static boolean bump(int b) {
        return b >= 0 && b <= 999;
    }

    int gives(int k, int b) {
        if (!in(k, den.holds)) {
            return UNKNOWN;
        }
        if (!bump(b)) {
            return OUTSIDE;
        }
        if (!den.holds.get(k).holds) {
            return NOT;
        }
        return den.gives(k, b) ? 1 : 0;
    }

    int rest(int t, int b) {
        if (t != NONE) {
            if (!in(t, den.things)) {
                return UNKNOWN;
            }
            if (!bump(b)) {
                return OUTSIDE;
            }
        }
        events = den.rest(t, b);
        return events.size();
    }

    int event(int i, int what) {
        if (what < 0 || what > 1) {
            return OUTSIDE;
        }
        return in(i, events) ? events.get(i)[what] : NONE;
    }

    int stands() {
        return den.bears(NONE, 0) ? 1 : 0;
    }

    int bears(int t, int b) {
        if (!in(t, den.things)) {
            return UNKNOWN;
        }
        return !bump(b) ? OUTSIDE : den.bears(t, b) ? 1 : 0;
    }

    int weakest(int t) {
        if (!in(t, den.things)) {
            return UNKNOWN;
        }
        for (int b = 0; b < 1000; b++) {
            if (den.copy().round(t, b) != null) {
                return b;
            }
        }
        return NONE;
    }

    private static boolean high(int h) {
        return h > 0 && h < 21;
    }

    int room(int h, int what) {
        if (!high(h) || what < 0 || what > 3) {
            return OUTSIDE;
        }
        List<Integer> room = den.greatest(h);
        int least = room.isEmpty() ? NONE : 64;
        for (int c : room) {
            least = Math.min(least, c);
        }
        return new int[] {room.size(), least, den.doors(room), den.dark(room)}[what];
    }

    long cells(int h) {
        if (!high(h)) {
            return OUTSIDE;
        }
        long all = 0;
        for (int c : den.greatest(h)) {
            all |= 1L << c;
        }
        return all;
    }

    int rooms(int h) {
        return high(h) ? den.rooms(h).size() : OUTSIDE;
    }

    int light(int c) {
        return c < 0 || c > 63 ? UNKNOWN : den.light(c);
    }

    int most(int h, int p, int q, int k) {
        if (k != NONE && !in(k, den.holds)) {
            return UNKNOWN;
        }
        if (!high(h) || p < 0 || p > 12 || q < 0 || q > 12) {
            return OUTSIDE;
        }
        if (den.holds.size() > 7) {
            return NOT;
        }
        int[] best = new int[8];
        best[7] = NONE;
        tryRows(new int[7], 0, new int[] {h, p, q}, best);
        return k == NONE ? best[7] : best[k];
    }

    private void tryRows(int[] row, int k, int[] asked, int[] best) {
        if (k < den.holds.size()) {
            for (int kind = 0; kind < 3; kind++) {
                row[k] = kind;
                tryRows(row, k + 1, asked, best);
            }
            return;
        }
        int pegs = 0, books = 0;
        Den x = den.heldAgain();
        for (int i = 0; i < k; i++) {
            pegs += row[i] == 1 ? 1 : 0;
            books += row[i] == 2 ? 1 : 0;
            x.holds.get(i).how = row[i];
            x.holds.get(i).n = row[i] == 2 ? 20 : 0;
        }
        if (pegs > asked[1] || books > asked[2]) {
            return;
        }
        x.rest(NONE, 0);
        int cells = x.greatest(asked[0]).size();
        if (cells > best[7]) {
            System.arraycopy(row, 0, best, 0, 7);
            best[7] = cells;
        }
    }

    int fewest() {
        int holds = den.holds.size();
        if (holds > 7) {
            return NOT;
        }
        for (int p = 0; p <= holds; p++) {
            for (int set = 0; set < 1 << holds; set++) {
                Den x = den.heldAgain();
                int pegs = 0;
                for (int k = 0; k < holds; k++) {
                    x.holds.get(k).how = set >> k & 1;
                    x.holds.get(k).n = 0;
                    pegs += set >> k & 1;
                }
                if (pegs == p && x.rest(NONE, 0).isEmpty()) {
                    return p;
                }
            }
        }
        return NONE;
    }

    int order(int k, boolean down, int j) {
        if (k < 0 || k > 4) {
            return OUTSIDE;
        }
        if (Integer.bitCount(holding(den)) > 7) {
            return NOT;
        }
        List<Integer> order = new ArrayList<>();
        if (!goOn(order, k, down)) {
            return NONE;
        }
        return j == NONE ? 1 : in(j, order) ? order.get(j) : NONE;
    }

    /** Every order is gone through, and judged step by step. */
    private boolean goOn(List<Integer> order, int hands, boolean down) {
        if (!order.isEmpty() && !judged(order, hands, down)) {
            return false;
        }
        if (order.size() == Integer.bitCount(holding(den))) {
            return true;
        }
        for (int k = 0; k < den.holds.size(); k++) {
            if (den.holds.get(k).holds && !order.contains(k)) {
                order.add(k);
                if (goOn(order, hands, down)) {
                    return true;
                }
                order.remove(order.size() - 1);
            }
        }
        return false;
    }

    private boolean judged(List<Integer> done, int hands, boolean down) {
        Den x = den.copy();
        int left = hands;
        for (int k = 0; k < x.holds.size(); k++) {
            Hold hold = x.holds.get(k);
            boolean up = done.contains(k) != down;
            if (hold.holds && !up) {
                hold.inHands = left > 0;
                hold.holds = left > 0;
                left--;
            }
        }
        return x.standsWithHands();
    }

    int heap(int set) {
        if (set < 0 || set >= 1 << den.holds.size()) {
            return UNKNOWN;
        }
        int all = 0;
        for (int k = 0; k < den.holds.size(); k++) {
            Den x = den.copy();
            if (x.holds.get(k).holds) {
                x.holds.get(k).holds = false;
                x.rest(NONE, 0);
                all |= holding(x) == set ? 1 << k : 0;
            }
        }
        return all;
    }

    int change(int t, int b) {
        if (!in(t, den.things)) {
            return UNKNOWN;
        }
        if (!bump(b)) {
            return OUTSIDE;
        }
        if (den.bears(t, b)) {
            return 0;
        }
        int best = NONE;
        for (int i = 0; i < den.holds.size(); i++) {
            for (int j = 0; j < den.holds.size(); j++) {
                int set = 1 << i | 1 << j;
                if (den.holds.get(i).holds && den.holds.get(j).holds) {
                    Den x = den.copy();
                    x.holds.get(i).how = 3;
                    x.holds.get(j).how = 3;
                    boolean better = best == NONE || Integer.bitCount(set) < Integer.bitCount(best)
                        || Integer.bitCount(set) == Integer.bitCount(best) && set < best;
                    if (better && x.rest(t, b).isEmpty()) {
                        best = set;
                    }
                }
            }
        }
        return best;
    }

    int fasten(int k, int how, int n) {
        if (!in(k, den.holds)) {
            return UNKNOWN;
        }
        if (how < 0 || how > 4 || how == 2 && (n < 1 || n > 99)) {
            return OUTSIDE;
        }
        Hold x = den.holds.get(k);
        if (!den.cloths.get(x.cloth).over(den.things.get(x.thing).cell)) {
            return NOT;
        }
        int was = x.how;
        x.how = how;
        x.n = how == 2 ? n : 0;
        x.holds = true;
        return was;
    }

    int tower(int j) {
        List<Integer> best = new ArrayList<>();
        pile(new ArrayList<>(), best);
        int height = 0;
        for (int t : best) {
            height += den.things.get(t).h;
        }
        return j == NONE ? height : in(j, best) ? best.get(j) : NONE;
    }

    private int heightOf(List<Integer> row) {
        int all = 0;
        for (int t : row) {
            all += den.things.get(t).h;
        }
        return all;
    }

    /** Rows come in the order of the document, so only a higher one is taken. */
    private void pile(List<Integer> row, List<Integer> best) {
        for (int i = 0; i < row.size(); i++) {
            int above = 0;
            for (int e = i + 1; e < row.size(); e++) {
                above += den.things.get(row.get(e)).w;
            }
            if (above > 3 * den.things.get(row.get(i)).w) {
                return;
            }
        }
        if (heightOf(row) > heightOf(best)) {
            best.clear();
            best.addAll(row);
        }
        for (int t = 0; t < den.things.size(); t++) {
            if (!row.contains(t)) {
                row.add(t);
                pile(row, best);
                row.remove(row.size() - 1);
            }
        }
    }

    int met(int w) {
        if (!in(w, wants)) {
            return UNKNOWN;
        }
        Want want = wants.get(w);
        List<Integer> room = den.greatest(want.high);
        boolean met = room.size() >= want.n && den.dark(room) <= want.dark
            && (!want.door || den.doors(room) > 0) && (!want.stands || stands() == 1);
        return met ? 1 : 0;
    }

    int seed(int v) {
        if (v < 0) {
            return OUTSIDE;
        }
        int was = (int) seed;
        seed = v;
        return was;
    }

    private int drawn(int n) {
        seed = (seed * 1103515245L + 12345L) % 2147483648L;
        return (int) (seed / 65536 % n);
    }

    int bumps(int n, int b) {
        if (n < 1 || n > 20 || !bump(b)) {
            return OUTSIDE;
        }
        if (den.things.isEmpty()) {
            return NOT;
        }
        int all = 0;
        for (int i = 0; i < n; i++) {
            int t = drawn(den.things.size());
            int strength = drawn(b + 1);
            events = den.rest(t, strength);
            all += events.size();
        }
        return all;
    }

    int keep(int i) {
        if (i != 0 && i != 1) {
            return UNKNOWN;
        }
        images[i] = den.copy();
        seeds[i] = seed;
        return 1;
    }

    int goBack(int i) {
        if (i != 0 && i != 1) {
            return UNKNOWN;
        }
        if (images[i] == null) {
            return NOT;
        }
        den = images[i].copy();
        seed = seeds[i];
        return 1;
    }
}
